def fp_X12_feed_r125 : jFp := [(125, 0, 1), (125, 8, 9), (131, 0, 400)]
set_option maxRecDepth 100000 in
set_option maxHeartbeats 4000000 in
theorem sf_X12_feed_r125 {Dy : jH → Prop} {h : jH} {Q : Option Value → jH → Prop} {a1 : Int32} {a2 : Int32} {a3 : Int32} {a4 : Int32} {a5 : Int32} (hD : jDk Dy) (J : jJ jSgM Dy h) (hQ : ∀ (v : Int32) hx9, (-1) ≤ v.toInt ∧ v.toInt ≤ 400 → jJ jSgM Dy hx9 → jSm fp_X12_feed_r125 h hx9 → Q (some (.int v)) hx9) : jC m_X12_feed 2 0 0 [.ref 125, .int a1, .int a2, .int a3, .int a4, .int a5] h Q := by
  refine jC.of rfl k_X12_feed rfl ?_
  have Sm := jSm_rf fp_X12_feed_r125 h
  have ea1 := jfull a1
  have ea2 := jfull a2
  have ea3 := jfull a3
  have ea4 := jfull a4
  have ea5 := jfull a5
  show jX m_X12_feed 2 0 0 0 [(0, .ref 125), (1, .int a1), (2, .int a2), (3, .int a3), (4, .int a4), (5, .int a5)] [] _ 0 0 _
  refine x_aloadn (x := 125) rfl rfl ?_
  refine x_iconst (v := 0) rfl ki_0 ?_
  refine z_putI (N := 92) (w := 0) 12 0 rfl f_12_180 rfl (jfin_no TX12 RX12 92 rfl rfl) hD J Sm rfl rfl jk_0 (pw_125_0 (by omega)) rfl (fun h w1 J Sm => ?_)
  refine x_aloadn (x := 125) rfl rfl ?_
  refine z_getI (N := 92) 12 8 rfl f_12_201 rfl J rfl sg_125_8_9_1_0_1 (fun v2 qv2 ev2 => ?_)
  refine x_bipush (v := 20) rfl kb_20 ?_
  refine z_iadd rfl rfl jk_20 (by omega) (fun v3 ev3 => ?_)
  refine x_sipush (v := 400) rfl ks_400 ?_
  refine x_icle (tgt := 20) rfl rfl (ti_le rfl jk_400 ⟨fun c4 => ?_, fun c4 => ?_⟩)
  ·
    refine x_aloadn (x := 125) rfl rfl ?_
    refine x_iloadn (x := a1) rfl rfl ?_
    refine x_inv (N := m_X12_four) (As := [.int a1]) (b := 125) (st := []) (dx9 := 1) (mc := 0) (ms := 0) (host := "") 12 rfl t_X12_four ⟨Or.inl q_12_207, i_X12_four.1, i_X12_four.2⟩ ⟨by decide, rfl⟩ (congrArg Prod.fst (J.1.1 125 (12, 92) rfl)) rfl (by decide) rfl rfl ⟨by decide, by decide⟩ (jC.of rfl k_X12_four rfl ?_)
    show jX m_X12_four 1 0 0 0 [(0, .ref 125), (1, .int a1)] [] _ 0 0 _
    refine x_bipush (v := 24) rfl kb_24 ?_
    refine x_istoren (lsx9 := [(2, .int 24), (0, .ref 125), (1, .int a1)]) rfl rfl rfl ?_
    refine x_iloadn (x := 24) rfl rfl ?_
    refine x_iflt (tgt := 39) rfl rfl (ti_lt jk_24 jk_0 (br_f (by omega) ?_))
    refine x_aloadn (x := 125) rfl rfl ?_
    refine z_getR (N := 92) (b := 131) 12 7 rfl f_12_29 rfl J rfl 16007 ⟨rfl, rfl⟩ rfl ?_
    refine x_aloadn (x := 125) rfl rfl ?_
    refine z_getM (N := 92) (v := v2) 12 8 rfl f_12_201 rfl J rfl qv2 ?_
    refine x_iloadn (x := a1) rfl rfl ?_
    refine x_iloadn (x := 24) rfl rfl ?_
    refine z_ishr0 rfl (fun v5 => ?_)
    have ev5 := jfull v5
    refine x_sipush (v := 255) rfl ks_255 ?_
    refine z_iand rfl jk_255 (by decide) (fun v6 ev6 => ?_)
    refine z_iast (N := 400) (l := 0) (u := 400) (w := v6.toInt) rfl hD J Sm rfl rfl rfl (by omega) rfl (wr_131 (fun q1 q2 q3 q4 => by omega)) rfl (fun h w7 J Sm => ?_)
    refine x_aloadn (x := 125) rfl rfl ?_
    refine x_dup rfl rfl ?_
    refine z_getM (N := 92) (v := v2) 12 8 rfl f_12_201 rfl J rfl (jmo w7 rfl qv2) ?_
    refine x_iconst (v := 1) rfl ki_1 ?_
    refine z_iadd rfl rfl jk_1 (by omega) (fun v8 ev8 => ?_)
    refine z_putI (N := 92) (w := v8.toInt) 12 8 rfl f_12_201 rfl (jfin_no TX12 RX12 92 rfl rfl) hD J Sm rfl rfl rfl (pw_125_8 (by omega)) rfl (fun h w9 J Sm => ?_)
    refine z_iinc (x := 24) (lsx9 := fun v10 => [(2, .int v10), (0, .ref 125), (1, .int a1)]) rfl rfl jk_24 jko_m8 (by omega) rfl (fun _ => rfl) (fun v10 ev10 => ?_)
    refine x_goto (tgt := 3) rfl rfl ?_
    refine x_iloadn (x := v10) rfl rfl ?_
    refine x_iflt (tgt := 39) rfl rfl (ti_lt rfl jk_0 (br_f (by omega) ?_))
    refine x_aloadn (x := 125) rfl rfl ?_
    refine z_getR (N := 92) (b := 131) 12 7 rfl f_12_29 rfl J rfl 16007 ⟨rfl, rfl⟩ rfl ?_
    refine x_aloadn (x := 125) rfl rfl ?_
    refine z_getM (N := 92) (v := v8) 12 8 rfl f_12_201 rfl J rfl (jmw w9) ?_
    refine x_iloadn (x := a1) rfl rfl ?_
    refine x_iloadn (x := v10) rfl rfl ?_
    refine z_ishr0 rfl (fun v11 => ?_)
    have ev11 := jfull v11
    refine x_sipush (v := 255) rfl ks_255 ?_
    refine z_iand rfl jk_255 (by decide) (fun v12 ev12 => ?_)
    refine z_iast (N := 400) (l := 0) (u := 400) (w := v12.toInt) rfl hD J Sm rfl rfl rfl (by omega) rfl (wr_131 (fun q1 q2 q3 q4 => by omega)) rfl (fun h w13 J Sm => ?_)
    refine x_aloadn (x := 125) rfl rfl ?_
    refine x_dup rfl rfl ?_
    refine z_getM (N := 92) (v := v8) 12 8 rfl f_12_201 rfl J rfl (jmo w13 rfl (jmw w9)) ?_
    refine x_iconst (v := 1) rfl ki_1 ?_
    refine z_iadd rfl rfl jk_1 (by omega) (fun v14 ev14 => ?_)
    refine z_putI (N := 92) (w := v14.toInt) 12 8 rfl f_12_201 rfl (jfin_no TX12 RX12 92 rfl rfl) hD J Sm rfl rfl rfl (pw_125_8 (by omega)) rfl (fun h w15 J Sm => ?_)
    refine z_iinc (x := v10) (lsx9 := fun v16 => [(2, .int v16), (0, .ref 125), (1, .int a1)]) rfl rfl rfl jko_m8 (by omega) rfl (fun _ => rfl) (fun v16 ev16 => ?_)
    refine x_goto (tgt := 3) rfl rfl ?_
    refine x_iloadn (x := v16) rfl rfl ?_
    refine x_iflt (tgt := 39) rfl rfl (ti_lt rfl jk_0 (br_f (by omega) ?_))
    refine x_aloadn (x := 125) rfl rfl ?_
    refine z_getR (N := 92) (b := 131) 12 7 rfl f_12_29 rfl J rfl 16007 ⟨rfl, rfl⟩ rfl ?_
    refine x_aloadn (x := 125) rfl rfl ?_
    refine z_getM (N := 92) (v := v14) 12 8 rfl f_12_201 rfl J rfl (jmw w15) ?_
    refine x_iloadn (x := a1) rfl rfl ?_
    refine x_iloadn (x := v16) rfl rfl ?_
    refine z_ishr0 rfl (fun v17 => ?_)
    have ev17 := jfull v17
    refine x_sipush (v := 255) rfl ks_255 ?_
    refine z_iand rfl jk_255 (by decide) (fun v18 ev18 => ?_)
    refine z_iast (N := 400) (l := 0) (u := 400) (w := v18.toInt) rfl hD J Sm rfl rfl rfl (by omega) rfl (wr_131 (fun q1 q2 q3 q4 => by omega)) rfl (fun h w19 J Sm => ?_)
    refine x_aloadn (x := 125) rfl rfl ?_
    refine x_dup rfl rfl ?_
    refine z_getM (N := 92) (v := v14) 12 8 rfl f_12_201 rfl J rfl (jmo w19 rfl (jmw w15)) ?_
    refine x_iconst (v := 1) rfl ki_1 ?_
    refine z_iadd rfl rfl jk_1 (by omega) (fun v20 ev20 => ?_)
    refine z_putI (N := 92) (w := v20.toInt) 12 8 rfl f_12_201 rfl (jfin_no TX12 RX12 92 rfl rfl) hD J Sm rfl rfl rfl (pw_125_8 (by omega)) rfl (fun h w21 J Sm => ?_)
    refine z_iinc (x := v16) (lsx9 := fun v22 => [(2, .int v22), (0, .ref 125), (1, .int a1)]) rfl rfl rfl jko_m8 (by omega) rfl (fun _ => rfl) (fun v22 ev22 => ?_)
    refine x_goto (tgt := 3) rfl rfl ?_
    refine x_iloadn (x := v22) rfl rfl ?_
    refine x_iflt (tgt := 39) rfl rfl (ti_lt rfl jk_0 (br_f (by omega) ?_))
    refine x_aloadn (x := 125) rfl rfl ?_
    refine z_getR (N := 92) (b := 131) 12 7 rfl f_12_29 rfl J rfl 16007 ⟨rfl, rfl⟩ rfl ?_
    refine x_aloadn (x := 125) rfl rfl ?_
    refine z_getM (N := 92) (v := v20) 12 8 rfl f_12_201 rfl J rfl (jmw w21) ?_
    refine x_iloadn (x := a1) rfl rfl ?_
    refine x_iloadn (x := v22) rfl rfl ?_
    refine z_ishr0 rfl (fun v23 => ?_)
    have ev23 := jfull v23
    refine x_sipush (v := 255) rfl ks_255 ?_
    refine z_iand rfl jk_255 (by decide) (fun v24 ev24 => ?_)
    refine z_iast (N := 400) (l := 0) (u := 400) (w := v24.toInt) rfl hD J Sm rfl rfl rfl (by omega) rfl (wr_131 (fun q1 q2 q3 q4 => by omega)) rfl (fun h w25 J Sm => ?_)
    refine x_aloadn (x := 125) rfl rfl ?_
    refine x_dup rfl rfl ?_
    refine z_getM (N := 92) (v := v20) 12 8 rfl f_12_201 rfl J rfl (jmo w25 rfl (jmw w21)) ?_
    refine x_iconst (v := 1) rfl ki_1 ?_
    refine z_iadd rfl rfl jk_1 (by omega) (fun v26 ev26 => ?_)
    refine z_putI (N := 92) (w := v26.toInt) 12 8 rfl f_12_201 rfl (jfin_no TX12 RX12 92 rfl rfl) hD J Sm rfl rfl rfl (pw_125_8 (by omega)) rfl (fun h w27 J Sm => ?_)
    refine z_iinc (x := v22) (lsx9 := fun v28 => [(2, .int v28), (0, .ref 125), (1, .int a1)]) rfl rfl rfl jko_m8 (by omega) rfl (fun _ => rfl) (fun v28 ev28 => ?_)
    refine x_goto (tgt := 3) rfl rfl ?_
    refine x_iloadn (x := v28) rfl rfl ?_
    refine x_iflt (tgt := 39) rfl rfl (ti_lt rfl jk_0 (br_t (by omega) ?_))
    refine x_vret rfl rfl ?_
    show jX m_X12_feed 2 0 0 25 [(0, .ref 125), (1, .int a1), (2, .int a2), (3, .int a3), (4, .int a4), (5, .int a5)] [] _ 0 0 _
    refine x_aloadn (x := 125) rfl rfl ?_
    refine x_iloadn (x := a2) rfl rfl ?_
    refine x_inv (N := m_X12_four) (As := [.int a2]) (b := 125) (st := []) (dx9 := 1) (mc := 0) (ms := 0) (host := "") 12 rfl t_X12_four ⟨Or.inl q_12_207, i_X12_four.1, i_X12_four.2⟩ ⟨by decide, rfl⟩ (congrArg Prod.fst (J.1.1 125 (12, 92) rfl)) rfl (by decide) rfl rfl ⟨by decide, by decide⟩ (jC.of rfl k_X12_four rfl ?_)
    show jX m_X12_four 1 0 0 0 [(0, .ref 125), (1, .int a2)] [] _ 0 0 _
    refine x_bipush (v := 24) rfl kb_24 ?_
    refine x_istoren (lsx9 := [(2, .int 24), (0, .ref 125), (1, .int a2)]) rfl rfl rfl ?_
    refine x_iloadn (x := 24) rfl rfl ?_
    refine x_iflt (tgt := 39) rfl rfl (ti_lt jk_24 jk_0 (br_f (by omega) ?_))
    refine x_aloadn (x := 125) rfl rfl ?_
    refine z_getR (N := 92) (b := 131) 12 7 rfl f_12_29 rfl J rfl 16007 ⟨rfl, rfl⟩ rfl ?_
    refine x_aloadn (x := 125) rfl rfl ?_
    refine z_getM (N := 92) (v := v26) 12 8 rfl f_12_201 rfl J rfl (jmw w27) ?_
    refine x_iloadn (x := a2) rfl rfl ?_
    refine x_iloadn (x := 24) rfl rfl ?_
    refine z_ishr0 rfl (fun v29 => ?_)
    have ev29 := jfull v29
    refine x_sipush (v := 255) rfl ks_255 ?_
    refine z_iand rfl jk_255 (by decide) (fun v30 ev30 => ?_)
    refine z_iast (N := 400) (l := 0) (u := 400) (w := v30.toInt) rfl hD J Sm rfl rfl rfl (by omega) rfl (wr_131 (fun q1 q2 q3 q4 => by omega)) rfl (fun h w31 J Sm => ?_)
    refine x_aloadn (x := 125) rfl rfl ?_
    refine x_dup rfl rfl ?_
    refine z_getM (N := 92) (v := v26) 12 8 rfl f_12_201 rfl J rfl (jmo w31 rfl (jmw w27)) ?_
    refine x_iconst (v := 1) rfl ki_1 ?_
    refine z_iadd rfl rfl jk_1 (by omega) (fun v32 ev32 => ?_)
    refine z_putI (N := 92) (w := v32.toInt) 12 8 rfl f_12_201 rfl (jfin_no TX12 RX12 92 rfl rfl) hD J Sm rfl rfl rfl (pw_125_8 (by omega)) rfl (fun h w33 J Sm => ?_)
    refine z_iinc (x := 24) (lsx9 := fun v34 => [(2, .int v34), (0, .ref 125), (1, .int a2)]) rfl rfl jk_24 jko_m8 (by omega) rfl (fun _ => rfl) (fun v34 ev34 => ?_)
    refine x_goto (tgt := 3) rfl rfl ?_
    refine x_iloadn (x := v34) rfl rfl ?_
    refine x_iflt (tgt := 39) rfl rfl (ti_lt rfl jk_0 (br_f (by omega) ?_))
    refine x_aloadn (x := 125) rfl rfl ?_
    refine z_getR (N := 92) (b := 131) 12 7 rfl f_12_29 rfl J rfl 16007 ⟨rfl, rfl⟩ rfl ?_
    refine x_aloadn (x := 125) rfl rfl ?_
    refine z_getM (N := 92) (v := v32) 12 8 rfl f_12_201 rfl J rfl (jmw w33) ?_
    refine x_iloadn (x := a2) rfl rfl ?_
    refine x_iloadn (x := v34) rfl rfl ?_
    refine z_ishr0 rfl (fun v35 => ?_)
    have ev35 := jfull v35
    refine x_sipush (v := 255) rfl ks_255 ?_
    refine z_iand rfl jk_255 (by decide) (fun v36 ev36 => ?_)
    refine z_iast (N := 400) (l := 0) (u := 400) (w := v36.toInt) rfl hD J Sm rfl rfl rfl (by omega) rfl (wr_131 (fun q1 q2 q3 q4 => by omega)) rfl (fun h w37 J Sm => ?_)
    refine x_aloadn (x := 125) rfl rfl ?_
    refine x_dup rfl rfl ?_
    refine z_getM (N := 92) (v := v32) 12 8 rfl f_12_201 rfl J rfl (jmo w37 rfl (jmw w33)) ?_
    refine x_iconst (v := 1) rfl ki_1 ?_
    refine z_iadd rfl rfl jk_1 (by omega) (fun v38 ev38 => ?_)
    refine z_putI (N := 92) (w := v38.toInt) 12 8 rfl f_12_201 rfl (jfin_no TX12 RX12 92 rfl rfl) hD J Sm rfl rfl rfl (pw_125_8 (by omega)) rfl (fun h w39 J Sm => ?_)
    refine z_iinc (x := v34) (lsx9 := fun v40 => [(2, .int v40), (0, .ref 125), (1, .int a2)]) rfl rfl rfl jko_m8 (by omega) rfl (fun _ => rfl) (fun v40 ev40 => ?_)
    refine x_goto (tgt := 3) rfl rfl ?_
    refine x_iloadn (x := v40) rfl rfl ?_
    refine x_iflt (tgt := 39) rfl rfl (ti_lt rfl jk_0 (br_f (by omega) ?_))
    refine x_aloadn (x := 125) rfl rfl ?_
    refine z_getR (N := 92) (b := 131) 12 7 rfl f_12_29 rfl J rfl 16007 ⟨rfl, rfl⟩ rfl ?_
    refine x_aloadn (x := 125) rfl rfl ?_
    refine z_getM (N := 92) (v := v38) 12 8 rfl f_12_201 rfl J rfl (jmw w39) ?_
    refine x_iloadn (x := a2) rfl rfl ?_
    refine x_iloadn (x := v40) rfl rfl ?_
    refine z_ishr0 rfl (fun v41 => ?_)
    have ev41 := jfull v41
    refine x_sipush (v := 255) rfl ks_255 ?_
    refine z_iand rfl jk_255 (by decide) (fun v42 ev42 => ?_)
    refine z_iast (N := 400) (l := 0) (u := 400) (w := v42.toInt) rfl hD J Sm rfl rfl rfl (by omega) rfl (wr_131 (fun q1 q2 q3 q4 => by omega)) rfl (fun h w43 J Sm => ?_)
    refine x_aloadn (x := 125) rfl rfl ?_
    refine x_dup rfl rfl ?_
    refine z_getM (N := 92) (v := v38) 12 8 rfl f_12_201 rfl J rfl (jmo w43 rfl (jmw w39)) ?_
    refine x_iconst (v := 1) rfl ki_1 ?_
    refine z_iadd rfl rfl jk_1 (by omega) (fun v44 ev44 => ?_)
    refine z_putI (N := 92) (w := v44.toInt) 12 8 rfl f_12_201 rfl (jfin_no TX12 RX12 92 rfl rfl) hD J Sm rfl rfl rfl (pw_125_8 (by omega)) rfl (fun h w45 J Sm => ?_)
    refine z_iinc (x := v40) (lsx9 := fun v46 => [(2, .int v46), (0, .ref 125), (1, .int a2)]) rfl rfl rfl jko_m8 (by omega) rfl (fun _ => rfl) (fun v46 ev46 => ?_)
    refine x_goto (tgt := 3) rfl rfl ?_
    refine x_iloadn (x := v46) rfl rfl ?_
    refine x_iflt (tgt := 39) rfl rfl (ti_lt rfl jk_0 (br_f (by omega) ?_))
    refine x_aloadn (x := 125) rfl rfl ?_
    refine z_getR (N := 92) (b := 131) 12 7 rfl f_12_29 rfl J rfl 16007 ⟨rfl, rfl⟩ rfl ?_
    refine x_aloadn (x := 125) rfl rfl ?_
    refine z_getM (N := 92) (v := v44) 12 8 rfl f_12_201 rfl J rfl (jmw w45) ?_
    refine x_iloadn (x := a2) rfl rfl ?_
    refine x_iloadn (x := v46) rfl rfl ?_
    refine z_ishr0 rfl (fun v47 => ?_)
    have ev47 := jfull v47
    refine x_sipush (v := 255) rfl ks_255 ?_
    refine z_iand rfl jk_255 (by decide) (fun v48 ev48 => ?_)
    refine z_iast (N := 400) (l := 0) (u := 400) (w := v48.toInt) rfl hD J Sm rfl rfl rfl (by omega) rfl (wr_131 (fun q1 q2 q3 q4 => by omega)) rfl (fun h w49 J Sm => ?_)
    refine x_aloadn (x := 125) rfl rfl ?_
    refine x_dup rfl rfl ?_
    refine z_getM (N := 92) (v := v44) 12 8 rfl f_12_201 rfl J rfl (jmo w49 rfl (jmw w45)) ?_
    refine x_iconst (v := 1) rfl ki_1 ?_
    refine z_iadd rfl rfl jk_1 (by omega) (fun v50 ev50 => ?_)
    refine z_putI (N := 92) (w := v50.toInt) 12 8 rfl f_12_201 rfl (jfin_no TX12 RX12 92 rfl rfl) hD J Sm rfl rfl rfl (pw_125_8 (by omega)) rfl (fun h w51 J Sm => ?_)
    refine z_iinc (x := v46) (lsx9 := fun v52 => [(2, .int v52), (0, .ref 125), (1, .int a2)]) rfl rfl rfl jko_m8 (by omega) rfl (fun _ => rfl) (fun v52 ev52 => ?_)
    refine x_goto (tgt := 3) rfl rfl ?_
    refine x_iloadn (x := v52) rfl rfl ?_
    refine x_iflt (tgt := 39) rfl rfl (ti_lt rfl jk_0 (br_t (by omega) ?_))
    refine x_vret rfl rfl ?_
    show jX m_X12_feed 2 0 0 30 [(0, .ref 125), (1, .int a1), (2, .int a2), (3, .int a3), (4, .int a4), (5, .int a5)] [] _ 0 0 _
    refine x_aloadn (x := 125) rfl rfl ?_
    refine x_iloadn (x := a3) rfl rfl ?_
    refine x_inv (N := m_X12_four) (As := [.int a3]) (b := 125) (st := []) (dx9 := 1) (mc := 0) (ms := 0) (host := "") 12 rfl t_X12_four ⟨Or.inl q_12_207, i_X12_four.1, i_X12_four.2⟩ ⟨by decide, rfl⟩ (congrArg Prod.fst (J.1.1 125 (12, 92) rfl)) rfl (by decide) rfl rfl ⟨by decide, by decide⟩ (jC.of rfl k_X12_four rfl ?_)
    show jX m_X12_four 1 0 0 0 [(0, .ref 125), (1, .int a3)] [] _ 0 0 _
    refine x_bipush (v := 24) rfl kb_24 ?_
    refine x_istoren (lsx9 := [(2, .int 24), (0, .ref 125), (1, .int a3)]) rfl rfl rfl ?_
    refine x_iloadn (x := 24) rfl rfl ?_
    refine x_iflt (tgt := 39) rfl rfl (ti_lt jk_24 jk_0 (br_f (by omega) ?_))
    refine x_aloadn (x := 125) rfl rfl ?_
    refine z_getR (N := 92) (b := 131) 12 7 rfl f_12_29 rfl J rfl 16007 ⟨rfl, rfl⟩ rfl ?_
    refine x_aloadn (x := 125) rfl rfl ?_
    refine z_getM (N := 92) (v := v50) 12 8 rfl f_12_201 rfl J rfl (jmw w51) ?_
    refine x_iloadn (x := a3) rfl rfl ?_
    refine x_iloadn (x := 24) rfl rfl ?_
    refine z_ishr0 rfl (fun v53 => ?_)
    have ev53 := jfull v53
    refine x_sipush (v := 255) rfl ks_255 ?_
    refine z_iand rfl jk_255 (by decide) (fun v54 ev54 => ?_)
    refine z_iast (N := 400) (l := 0) (u := 400) (w := v54.toInt) rfl hD J Sm rfl rfl rfl (by omega) rfl (wr_131 (fun q1 q2 q3 q4 => by omega)) rfl (fun h w55 J Sm => ?_)
    refine x_aloadn (x := 125) rfl rfl ?_
    refine x_dup rfl rfl ?_
    refine z_getM (N := 92) (v := v50) 12 8 rfl f_12_201 rfl J rfl (jmo w55 rfl (jmw w51)) ?_
    refine x_iconst (v := 1) rfl ki_1 ?_
    refine z_iadd rfl rfl jk_1 (by omega) (fun v56 ev56 => ?_)
    refine z_putI (N := 92) (w := v56.toInt) 12 8 rfl f_12_201 rfl (jfin_no TX12 RX12 92 rfl rfl) hD J Sm rfl rfl rfl (pw_125_8 (by omega)) rfl (fun h w57 J Sm => ?_)
    refine z_iinc (x := 24) (lsx9 := fun v58 => [(2, .int v58), (0, .ref 125), (1, .int a3)]) rfl rfl jk_24 jko_m8 (by omega) rfl (fun _ => rfl) (fun v58 ev58 => ?_)
    refine x_goto (tgt := 3) rfl rfl ?_
    refine x_iloadn (x := v58) rfl rfl ?_
    refine x_iflt (tgt := 39) rfl rfl (ti_lt rfl jk_0 (br_f (by omega) ?_))
    refine x_aloadn (x := 125) rfl rfl ?_
    refine z_getR (N := 92) (b := 131) 12 7 rfl f_12_29 rfl J rfl 16007 ⟨rfl, rfl⟩ rfl ?_
    refine x_aloadn (x := 125) rfl rfl ?_
    refine z_getM (N := 92) (v := v56) 12 8 rfl f_12_201 rfl J rfl (jmw w57) ?_
    refine x_iloadn (x := a3) rfl rfl ?_
    refine x_iloadn (x := v58) rfl rfl ?_
    refine z_ishr0 rfl (fun v59 => ?_)
    have ev59 := jfull v59
    refine x_sipush (v := 255) rfl ks_255 ?_
    refine z_iand rfl jk_255 (by decide) (fun v60 ev60 => ?_)
    refine z_iast (N := 400) (l := 0) (u := 400) (w := v60.toInt) rfl hD J Sm rfl rfl rfl (by omega) rfl (wr_131 (fun q1 q2 q3 q4 => by omega)) rfl (fun h w61 J Sm => ?_)
    refine x_aloadn (x := 125) rfl rfl ?_
    refine x_dup rfl rfl ?_
    refine z_getM (N := 92) (v := v56) 12 8 rfl f_12_201 rfl J rfl (jmo w61 rfl (jmw w57)) ?_
    refine x_iconst (v := 1) rfl ki_1 ?_
    refine z_iadd rfl rfl jk_1 (by omega) (fun v62 ev62 => ?_)
    refine z_putI (N := 92) (w := v62.toInt) 12 8 rfl f_12_201 rfl (jfin_no TX12 RX12 92 rfl rfl) hD J Sm rfl rfl rfl (pw_125_8 (by omega)) rfl (fun h w63 J Sm => ?_)
    refine z_iinc (x := v58) (lsx9 := fun v64 => [(2, .int v64), (0, .ref 125), (1, .int a3)]) rfl rfl rfl jko_m8 (by omega) rfl (fun _ => rfl) (fun v64 ev64 => ?_)
    refine x_goto (tgt := 3) rfl rfl ?_
    refine x_iloadn (x := v64) rfl rfl ?_
    refine x_iflt (tgt := 39) rfl rfl (ti_lt rfl jk_0 (br_f (by omega) ?_))
    refine x_aloadn (x := 125) rfl rfl ?_
    refine z_getR (N := 92) (b := 131) 12 7 rfl f_12_29 rfl J rfl 16007 ⟨rfl, rfl⟩ rfl ?_
    refine x_aloadn (x := 125) rfl rfl ?_
    refine z_getM (N := 92) (v := v62) 12 8 rfl f_12_201 rfl J rfl (jmw w63) ?_
    refine x_iloadn (x := a3) rfl rfl ?_
    refine x_iloadn (x := v64) rfl rfl ?_
    refine z_ishr0 rfl (fun v65 => ?_)
    have ev65 := jfull v65
    refine x_sipush (v := 255) rfl ks_255 ?_
    refine z_iand rfl jk_255 (by decide) (fun v66 ev66 => ?_)
    refine z_iast (N := 400) (l := 0) (u := 400) (w := v66.toInt) rfl hD J Sm rfl rfl rfl (by omega) rfl (wr_131 (fun q1 q2 q3 q4 => by omega)) rfl (fun h w67 J Sm => ?_)
    refine x_aloadn (x := 125) rfl rfl ?_
    refine x_dup rfl rfl ?_
    refine z_getM (N := 92) (v := v62) 12 8 rfl f_12_201 rfl J rfl (jmo w67 rfl (jmw w63)) ?_
    refine x_iconst (v := 1) rfl ki_1 ?_
    refine z_iadd rfl rfl jk_1 (by omega) (fun v68 ev68 => ?_)
    refine z_putI (N := 92) (w := v68.toInt) 12 8 rfl f_12_201 rfl (jfin_no TX12 RX12 92 rfl rfl) hD J Sm rfl rfl rfl (pw_125_8 (by omega)) rfl (fun h w69 J Sm => ?_)
    refine z_iinc (x := v64) (lsx9 := fun v70 => [(2, .int v70), (0, .ref 125), (1, .int a3)]) rfl rfl rfl jko_m8 (by omega) rfl (fun _ => rfl) (fun v70 ev70 => ?_)
    refine x_goto (tgt := 3) rfl rfl ?_
    refine x_iloadn (x := v70) rfl rfl ?_
    refine x_iflt (tgt := 39) rfl rfl (ti_lt rfl jk_0 (br_f (by omega) ?_))
    refine x_aloadn (x := 125) rfl rfl ?_
    refine z_getR (N := 92) (b := 131) 12 7 rfl f_12_29 rfl J rfl 16007 ⟨rfl, rfl⟩ rfl ?_
    refine x_aloadn (x := 125) rfl rfl ?_
    refine z_getM (N := 92) (v := v68) 12 8 rfl f_12_201 rfl J rfl (jmw w69) ?_
    refine x_iloadn (x := a3) rfl rfl ?_
    refine x_iloadn (x := v70) rfl rfl ?_
    refine z_ishr0 rfl (fun v71 => ?_)
    have ev71 := jfull v71
    refine x_sipush (v := 255) rfl ks_255 ?_
    refine z_iand rfl jk_255 (by decide) (fun v72 ev72 => ?_)
    refine z_iast (N := 400) (l := 0) (u := 400) (w := v72.toInt) rfl hD J Sm rfl rfl rfl (by omega) rfl (wr_131 (fun q1 q2 q3 q4 => by omega)) rfl (fun h w73 J Sm => ?_)
    refine x_aloadn (x := 125) rfl rfl ?_
    refine x_dup rfl rfl ?_
    refine z_getM (N := 92) (v := v68) 12 8 rfl f_12_201 rfl J rfl (jmo w73 rfl (jmw w69)) ?_
    refine x_iconst (v := 1) rfl ki_1 ?_
    refine z_iadd rfl rfl jk_1 (by omega) (fun v74 ev74 => ?_)
    refine z_putI (N := 92) (w := v74.toInt) 12 8 rfl f_12_201 rfl (jfin_no TX12 RX12 92 rfl rfl) hD J Sm rfl rfl rfl (pw_125_8 (by omega)) rfl (fun h w75 J Sm => ?_)
    refine z_iinc (x := v70) (lsx9 := fun v76 => [(2, .int v76), (0, .ref 125), (1, .int a3)]) rfl rfl rfl jko_m8 (by omega) rfl (fun _ => rfl) (fun v76 ev76 => ?_)
    refine x_goto (tgt := 3) rfl rfl ?_
    refine x_iloadn (x := v76) rfl rfl ?_
    refine x_iflt (tgt := 39) rfl rfl (ti_lt rfl jk_0 (br_t (by omega) ?_))
    refine x_vret rfl rfl ?_
    show jX m_X12_feed 2 0 0 35 [(0, .ref 125), (1, .int a1), (2, .int a2), (3, .int a3), (4, .int a4), (5, .int a5)] [] _ 0 0 _
    refine x_aloadn (x := 125) rfl rfl ?_
    refine x_iload (x := a4) rfl rfl ?_
    refine x_inv (N := m_X12_four) (As := [.int a4]) (b := 125) (st := []) (dx9 := 1) (mc := 0) (ms := 0) (host := "") 12 rfl t_X12_four ⟨Or.inl q_12_207, i_X12_four.1, i_X12_four.2⟩ ⟨by decide, rfl⟩ (congrArg Prod.fst (J.1.1 125 (12, 92) rfl)) rfl (by decide) rfl rfl ⟨by decide, by decide⟩ (jC.of rfl k_X12_four rfl ?_)
    show jX m_X12_four 1 0 0 0 [(0, .ref 125), (1, .int a4)] [] _ 0 0 _
    refine x_bipush (v := 24) rfl kb_24 ?_
    refine x_istoren (lsx9 := [(2, .int 24), (0, .ref 125), (1, .int a4)]) rfl rfl rfl ?_
    refine x_iloadn (x := 24) rfl rfl ?_
    refine x_iflt (tgt := 39) rfl rfl (ti_lt jk_24 jk_0 (br_f (by omega) ?_))
    refine x_aloadn (x := 125) rfl rfl ?_
    refine z_getR (N := 92) (b := 131) 12 7 rfl f_12_29 rfl J rfl 16007 ⟨rfl, rfl⟩ rfl ?_
    refine x_aloadn (x := 125) rfl rfl ?_
    refine z_getM (N := 92) (v := v74) 12 8 rfl f_12_201 rfl J rfl (jmw w75) ?_
    refine x_iloadn (x := a4) rfl rfl ?_
    refine x_iloadn (x := 24) rfl rfl ?_
    refine z_ishr0 rfl (fun v77 => ?_)
    have ev77 := jfull v77
    refine x_sipush (v := 255) rfl ks_255 ?_
    refine z_iand rfl jk_255 (by decide) (fun v78 ev78 => ?_)
    refine z_iast (N := 400) (l := 0) (u := 400) (w := v78.toInt) rfl hD J Sm rfl rfl rfl (by omega) rfl (wr_131 (fun q1 q2 q3 q4 => by omega)) rfl (fun h w79 J Sm => ?_)
    refine x_aloadn (x := 125) rfl rfl ?_
    refine x_dup rfl rfl ?_
    refine z_getM (N := 92) (v := v74) 12 8 rfl f_12_201 rfl J rfl (jmo w79 rfl (jmw w75)) ?_
    refine x_iconst (v := 1) rfl ki_1 ?_
    refine z_iadd rfl rfl jk_1 (by omega) (fun v80 ev80 => ?_)
    refine z_putI (N := 92) (w := v80.toInt) 12 8 rfl f_12_201 rfl (jfin_no TX12 RX12 92 rfl rfl) hD J Sm rfl rfl rfl (pw_125_8 (by omega)) rfl (fun h w81 J Sm => ?_)
    refine z_iinc (x := 24) (lsx9 := fun v82 => [(2, .int v82), (0, .ref 125), (1, .int a4)]) rfl rfl jk_24 jko_m8 (by omega) rfl (fun _ => rfl) (fun v82 ev82 => ?_)
    refine x_goto (tgt := 3) rfl rfl ?_
    refine x_iloadn (x := v82) rfl rfl ?_
    refine x_iflt (tgt := 39) rfl rfl (ti_lt rfl jk_0 (br_f (by omega) ?_))
    refine x_aloadn (x := 125) rfl rfl ?_
    refine z_getR (N := 92) (b := 131) 12 7 rfl f_12_29 rfl J rfl 16007 ⟨rfl, rfl⟩ rfl ?_
    refine x_aloadn (x := 125) rfl rfl ?_
    refine z_getM (N := 92) (v := v80) 12 8 rfl f_12_201 rfl J rfl (jmw w81) ?_
    refine x_iloadn (x := a4) rfl rfl ?_
    refine x_iloadn (x := v82) rfl rfl ?_
    refine z_ishr0 rfl (fun v83 => ?_)
    have ev83 := jfull v83
    refine x_sipush (v := 255) rfl ks_255 ?_
    refine z_iand rfl jk_255 (by decide) (fun v84 ev84 => ?_)
    refine z_iast (N := 400) (l := 0) (u := 400) (w := v84.toInt) rfl hD J Sm rfl rfl rfl (by omega) rfl (wr_131 (fun q1 q2 q3 q4 => by omega)) rfl (fun h w85 J Sm => ?_)
    refine x_aloadn (x := 125) rfl rfl ?_
    refine x_dup rfl rfl ?_
    refine z_getM (N := 92) (v := v80) 12 8 rfl f_12_201 rfl J rfl (jmo w85 rfl (jmw w81)) ?_
    refine x_iconst (v := 1) rfl ki_1 ?_
    refine z_iadd rfl rfl jk_1 (by omega) (fun v86 ev86 => ?_)
    refine z_putI (N := 92) (w := v86.toInt) 12 8 rfl f_12_201 rfl (jfin_no TX12 RX12 92 rfl rfl) hD J Sm rfl rfl rfl (pw_125_8 (by omega)) rfl (fun h w87 J Sm => ?_)
    refine z_iinc (x := v82) (lsx9 := fun v88 => [(2, .int v88), (0, .ref 125), (1, .int a4)]) rfl rfl rfl jko_m8 (by omega) rfl (fun _ => rfl) (fun v88 ev88 => ?_)
    refine x_goto (tgt := 3) rfl rfl ?_
    refine x_iloadn (x := v88) rfl rfl ?_
    refine x_iflt (tgt := 39) rfl rfl (ti_lt rfl jk_0 (br_f (by omega) ?_))
    refine x_aloadn (x := 125) rfl rfl ?_
    refine z_getR (N := 92) (b := 131) 12 7 rfl f_12_29 rfl J rfl 16007 ⟨rfl, rfl⟩ rfl ?_
    refine x_aloadn (x := 125) rfl rfl ?_
    refine z_getM (N := 92) (v := v86) 12 8 rfl f_12_201 rfl J rfl (jmw w87) ?_
    refine x_iloadn (x := a4) rfl rfl ?_
    refine x_iloadn (x := v88) rfl rfl ?_
    refine z_ishr0 rfl (fun v89 => ?_)
    have ev89 := jfull v89
    refine x_sipush (v := 255) rfl ks_255 ?_
    refine z_iand rfl jk_255 (by decide) (fun v90 ev90 => ?_)
    refine z_iast (N := 400) (l := 0) (u := 400) (w := v90.toInt) rfl hD J Sm rfl rfl rfl (by omega) rfl (wr_131 (fun q1 q2 q3 q4 => by omega)) rfl (fun h w91 J Sm => ?_)
    refine x_aloadn (x := 125) rfl rfl ?_
    refine x_dup rfl rfl ?_
    refine z_getM (N := 92) (v := v86) 12 8 rfl f_12_201 rfl J rfl (jmo w91 rfl (jmw w87)) ?_
    refine x_iconst (v := 1) rfl ki_1 ?_
    refine z_iadd rfl rfl jk_1 (by omega) (fun v92 ev92 => ?_)
    refine z_putI (N := 92) (w := v92.toInt) 12 8 rfl f_12_201 rfl (jfin_no TX12 RX12 92 rfl rfl) hD J Sm rfl rfl rfl (pw_125_8 (by omega)) rfl (fun h w93 J Sm => ?_)
    refine z_iinc (x := v88) (lsx9 := fun v94 => [(2, .int v94), (0, .ref 125), (1, .int a4)]) rfl rfl rfl jko_m8 (by omega) rfl (fun _ => rfl) (fun v94 ev94 => ?_)
    refine x_goto (tgt := 3) rfl rfl ?_
    refine x_iloadn (x := v94) rfl rfl ?_
    refine x_iflt (tgt := 39) rfl rfl (ti_lt rfl jk_0 (br_f (by omega) ?_))
    refine x_aloadn (x := 125) rfl rfl ?_
    refine z_getR (N := 92) (b := 131) 12 7 rfl f_12_29 rfl J rfl 16007 ⟨rfl, rfl⟩ rfl ?_
    refine x_aloadn (x := 125) rfl rfl ?_
    refine z_getM (N := 92) (v := v92) 12 8 rfl f_12_201 rfl J rfl (jmw w93) ?_
    refine x_iloadn (x := a4) rfl rfl ?_
    refine x_iloadn (x := v94) rfl rfl ?_
    refine z_ishr0 rfl (fun v95 => ?_)
    have ev95 := jfull v95
    refine x_sipush (v := 255) rfl ks_255 ?_
    refine z_iand rfl jk_255 (by decide) (fun v96 ev96 => ?_)
    refine z_iast (N := 400) (l := 0) (u := 400) (w := v96.toInt) rfl hD J Sm rfl rfl rfl (by omega) rfl (wr_131 (fun q1 q2 q3 q4 => by omega)) rfl (fun h w97 J Sm => ?_)
    refine x_aloadn (x := 125) rfl rfl ?_
    refine x_dup rfl rfl ?_
    refine z_getM (N := 92) (v := v92) 12 8 rfl f_12_201 rfl J rfl (jmo w97 rfl (jmw w93)) ?_
    refine x_iconst (v := 1) rfl ki_1 ?_
    refine z_iadd rfl rfl jk_1 (by omega) (fun v98 ev98 => ?_)
    refine z_putI (N := 92) (w := v98.toInt) 12 8 rfl f_12_201 rfl (jfin_no TX12 RX12 92 rfl rfl) hD J Sm rfl rfl rfl (pw_125_8 (by omega)) rfl (fun h w99 J Sm => ?_)
    refine z_iinc (x := v94) (lsx9 := fun v100 => [(2, .int v100), (0, .ref 125), (1, .int a4)]) rfl rfl rfl jko_m8 (by omega) rfl (fun _ => rfl) (fun v100 ev100 => ?_)
    refine x_goto (tgt := 3) rfl rfl ?_
    refine x_iloadn (x := v100) rfl rfl ?_
    refine x_iflt (tgt := 39) rfl rfl (ti_lt rfl jk_0 (br_t (by omega) ?_))
    refine x_vret rfl rfl ?_
    show jX m_X12_feed 2 0 0 41 [(0, .ref 125), (1, .int a1), (2, .int a2), (3, .int a3), (4, .int a4), (5, .int a5)] [] _ 0 0 _
    refine x_aloadn (x := 125) rfl rfl ?_
    refine x_iload (x := a5) rfl rfl ?_
    refine x_inv (N := m_X12_four) (As := [.int a5]) (b := 125) (st := []) (dx9 := 1) (mc := 0) (ms := 0) (host := "") 12 rfl t_X12_four ⟨Or.inl q_12_207, i_X12_four.1, i_X12_four.2⟩ ⟨by decide, rfl⟩ (congrArg Prod.fst (J.1.1 125 (12, 92) rfl)) rfl (by decide) rfl rfl ⟨by decide, by decide⟩ (jC.of rfl k_X12_four rfl ?_)
    show jX m_X12_four 1 0 0 0 [(0, .ref 125), (1, .int a5)] [] _ 0 0 _
    refine x_bipush (v := 24) rfl kb_24 ?_
    refine x_istoren (lsx9 := [(2, .int 24), (0, .ref 125), (1, .int a5)]) rfl rfl rfl ?_
    refine x_iloadn (x := 24) rfl rfl ?_
    refine x_iflt (tgt := 39) rfl rfl (ti_lt jk_24 jk_0 (br_f (by omega) ?_))
    refine x_aloadn (x := 125) rfl rfl ?_
    refine z_getR (N := 92) (b := 131) 12 7 rfl f_12_29 rfl J rfl 16007 ⟨rfl, rfl⟩ rfl ?_
    refine x_aloadn (x := 125) rfl rfl ?_
    refine z_getM (N := 92) (v := v98) 12 8 rfl f_12_201 rfl J rfl (jmw w99) ?_
    refine x_iloadn (x := a5) rfl rfl ?_
    refine x_iloadn (x := 24) rfl rfl ?_
    refine z_ishr0 rfl (fun v101 => ?_)
    have ev101 := jfull v101
    refine x_sipush (v := 255) rfl ks_255 ?_
    refine z_iand rfl jk_255 (by decide) (fun v102 ev102 => ?_)
    refine z_iast (N := 400) (l := 0) (u := 400) (w := v102.toInt) rfl hD J Sm rfl rfl rfl (by omega) rfl (wr_131 (fun q1 q2 q3 q4 => by omega)) rfl (fun h w103 J Sm => ?_)
    refine x_aloadn (x := 125) rfl rfl ?_
    refine x_dup rfl rfl ?_
    refine z_getM (N := 92) (v := v98) 12 8 rfl f_12_201 rfl J rfl (jmo w103 rfl (jmw w99)) ?_
    refine x_iconst (v := 1) rfl ki_1 ?_
    refine z_iadd rfl rfl jk_1 (by omega) (fun v104 ev104 => ?_)
    refine z_putI (N := 92) (w := v104.toInt) 12 8 rfl f_12_201 rfl (jfin_no TX12 RX12 92 rfl rfl) hD J Sm rfl rfl rfl (pw_125_8 (by omega)) rfl (fun h w105 J Sm => ?_)
    refine z_iinc (x := 24) (lsx9 := fun v106 => [(2, .int v106), (0, .ref 125), (1, .int a5)]) rfl rfl jk_24 jko_m8 (by omega) rfl (fun _ => rfl) (fun v106 ev106 => ?_)
    refine x_goto (tgt := 3) rfl rfl ?_
    refine x_iloadn (x := v106) rfl rfl ?_
    refine x_iflt (tgt := 39) rfl rfl (ti_lt rfl jk_0 (br_f (by omega) ?_))
    refine x_aloadn (x := 125) rfl rfl ?_
    refine z_getR (N := 92) (b := 131) 12 7 rfl f_12_29 rfl J rfl 16007 ⟨rfl, rfl⟩ rfl ?_
    refine x_aloadn (x := 125) rfl rfl ?_
    refine z_getM (N := 92) (v := v104) 12 8 rfl f_12_201 rfl J rfl (jmw w105) ?_
    refine x_iloadn (x := a5) rfl rfl ?_
    refine x_iloadn (x := v106) rfl rfl ?_
    refine z_ishr0 rfl (fun v107 => ?_)
    have ev107 := jfull v107
    refine x_sipush (v := 255) rfl ks_255 ?_
    refine z_iand rfl jk_255 (by decide) (fun v108 ev108 => ?_)
    refine z_iast (N := 400) (l := 0) (u := 400) (w := v108.toInt) rfl hD J Sm rfl rfl rfl (by omega) rfl (wr_131 (fun q1 q2 q3 q4 => by omega)) rfl (fun h w109 J Sm => ?_)
    refine x_aloadn (x := 125) rfl rfl ?_
    refine x_dup rfl rfl ?_
    refine z_getM (N := 92) (v := v104) 12 8 rfl f_12_201 rfl J rfl (jmo w109 rfl (jmw w105)) ?_
    refine x_iconst (v := 1) rfl ki_1 ?_
    refine z_iadd rfl rfl jk_1 (by omega) (fun v110 ev110 => ?_)
    refine z_putI (N := 92) (w := v110.toInt) 12 8 rfl f_12_201 rfl (jfin_no TX12 RX12 92 rfl rfl) hD J Sm rfl rfl rfl (pw_125_8 (by omega)) rfl (fun h w111 J Sm => ?_)
    refine z_iinc (x := v106) (lsx9 := fun v112 => [(2, .int v112), (0, .ref 125), (1, .int a5)]) rfl rfl rfl jko_m8 (by omega) rfl (fun _ => rfl) (fun v112 ev112 => ?_)
    refine x_goto (tgt := 3) rfl rfl ?_
    refine x_iloadn (x := v112) rfl rfl ?_
    refine x_iflt (tgt := 39) rfl rfl (ti_lt rfl jk_0 (br_f (by omega) ?_))
    refine x_aloadn (x := 125) rfl rfl ?_
    refine z_getR (N := 92) (b := 131) 12 7 rfl f_12_29 rfl J rfl 16007 ⟨rfl, rfl⟩ rfl ?_
    refine x_aloadn (x := 125) rfl rfl ?_
    refine z_getM (N := 92) (v := v110) 12 8 rfl f_12_201 rfl J rfl (jmw w111) ?_
    refine x_iloadn (x := a5) rfl rfl ?_
    refine x_iloadn (x := v112) rfl rfl ?_
    refine z_ishr0 rfl (fun v113 => ?_)
    have ev113 := jfull v113
    refine x_sipush (v := 255) rfl ks_255 ?_
    refine z_iand rfl jk_255 (by decide) (fun v114 ev114 => ?_)
    refine z_iast (N := 400) (l := 0) (u := 400) (w := v114.toInt) rfl hD J Sm rfl rfl rfl (by omega) rfl (wr_131 (fun q1 q2 q3 q4 => by omega)) rfl (fun h w115 J Sm => ?_)
    refine x_aloadn (x := 125) rfl rfl ?_
    refine x_dup rfl rfl ?_
    refine z_getM (N := 92) (v := v110) 12 8 rfl f_12_201 rfl J rfl (jmo w115 rfl (jmw w111)) ?_
    refine x_iconst (v := 1) rfl ki_1 ?_
    refine z_iadd rfl rfl jk_1 (by omega) (fun v116 ev116 => ?_)
    refine z_putI (N := 92) (w := v116.toInt) 12 8 rfl f_12_201 rfl (jfin_no TX12 RX12 92 rfl rfl) hD J Sm rfl rfl rfl (pw_125_8 (by omega)) rfl (fun h w117 J Sm => ?_)
    refine z_iinc (x := v112) (lsx9 := fun v118 => [(2, .int v118), (0, .ref 125), (1, .int a5)]) rfl rfl rfl jko_m8 (by omega) rfl (fun _ => rfl) (fun v118 ev118 => ?_)
    refine x_goto (tgt := 3) rfl rfl ?_
    refine x_iloadn (x := v118) rfl rfl ?_
    refine x_iflt (tgt := 39) rfl rfl (ti_lt rfl jk_0 (br_f (by omega) ?_))
    refine x_aloadn (x := 125) rfl rfl ?_
    refine z_getR (N := 92) (b := 131) 12 7 rfl f_12_29 rfl J rfl 16007 ⟨rfl, rfl⟩ rfl ?_
    refine x_aloadn (x := 125) rfl rfl ?_
    refine z_getM (N := 92) (v := v116) 12 8 rfl f_12_201 rfl J rfl (jmw w117) ?_
    refine x_iloadn (x := a5) rfl rfl ?_
    refine x_iloadn (x := v118) rfl rfl ?_
    refine z_ishr0 rfl (fun v119 => ?_)
    have ev119 := jfull v119
    refine x_sipush (v := 255) rfl ks_255 ?_
    refine z_iand rfl jk_255 (by decide) (fun v120 ev120 => ?_)
    refine z_iast (N := 400) (l := 0) (u := 400) (w := v120.toInt) rfl hD J Sm rfl rfl rfl (by omega) rfl (wr_131 (fun q1 q2 q3 q4 => by omega)) rfl (fun h w121 J Sm => ?_)
    refine x_aloadn (x := 125) rfl rfl ?_
    refine x_dup rfl rfl ?_
    refine z_getM (N := 92) (v := v116) 12 8 rfl f_12_201 rfl J rfl (jmo w121 rfl (jmw w117)) ?_
    refine x_iconst (v := 1) rfl ki_1 ?_
    refine z_iadd rfl rfl jk_1 (by omega) (fun v122 ev122 => ?_)
    refine z_putI (N := 92) (w := v122.toInt) 12 8 rfl f_12_201 rfl (jfin_no TX12 RX12 92 rfl rfl) hD J Sm rfl rfl rfl (pw_125_8 (by omega)) rfl (fun h w123 J Sm => ?_)
    refine z_iinc (x := v118) (lsx9 := fun v124 => [(2, .int v124), (0, .ref 125), (1, .int a5)]) rfl rfl rfl jko_m8 (by omega) rfl (fun _ => rfl) (fun v124 ev124 => ?_)
    refine x_goto (tgt := 3) rfl rfl ?_
    refine x_iloadn (x := v124) rfl rfl ?_
    refine x_iflt (tgt := 39) rfl rfl (ti_lt rfl jk_0 (br_t (by omega) ?_))
    refine x_vret rfl rfl ?_
    show jX m_X12_feed 2 0 0 47 [(0, .ref 125), (1, .int a1), (2, .int a2), (3, .int a3), (4, .int a4), (5, .int a5)] [] _ 0 0 _
    refine x_aloadn (x := 125) rfl rfl ?_
    refine z_getM (N := 92) (v := v122) 12 8 rfl f_12_201 rfl J rfl (jmw w123) ?_
    refine x_iret rfl rfl ?_
    exact hQ _ _ (jr_of rfl (by omega)) J Sm
  ·
    refine x_iconst (v := (-1)) rfl ki_m1 ?_
    refine x_iret rfl rfl ?_
    exact hQ _ _ (jr_of jk_m1 (by omega)) J Sm
def fp_X12_isTorn_r125 : jFp := []
set_option maxRecDepth 100000 in
set_option maxHeartbeats 4000000 in
theorem ct_X12_isTorn_r125_300090 {Dy : jH → Prop} {h0 : jH} {Q : Option Value → jH → Prop} {R6 : Int} (hD : jDk Dy) (hQ : ∀ (v : Int32) hx9, 0 ≤ v.toInt ∧ v.toInt ≤ 1 → jJ jSgM Dy hx9 → jSm fp_X12_isTorn_r125 h0 hx9 → Q (some (.int v)) hx9) (k6 : ∀ (l1 : Int32) (l2 : Int32) (l3 : Int32) (l4 : Int32) (l5 : Int32) (h : jH), 20 - l5.toInt < R6 → 0 ≤ l1.toInt ∧ l1.toInt ≤ 5 → 0 ≤ l2.toInt ∧ l2.toInt ≤ 146399 → (-146399) ≤ l3.toInt ∧ l3.toInt ≤ 292798 → 0 ≤ l4.toInt ∧ l4.toInt ≤ 1 → 0 ≤ l5.toInt ∧ l5.toInt ≤ 20 → jJ jSgM Dy h → jSm fp_X12_isTorn_r125 h0 h → jX m_X12_isTorn 1 0 0 6 [(0, .ref 125), (1, .int l1), (2, .int l2), (3, .int l3), (4, .int l4), (5, .int l5)] [] h 0 0 Q) : ∀ (l1 : Int32) (l2 : Int32) (l3 : Int32) (l5 : Int32) (h : jH), 0 ≤ l1.toInt ∧ l1.toInt ≤ 5 → 0 ≤ l2.toInt ∧ l2.toInt ≤ 146399 → (-146399) ≤ l3.toInt ∧ l3.toInt ≤ 292798 → 0 ≤ l5.toInt ∧ l5.toInt ≤ 19 → 20 - l5.toInt ≤ R6 → jJ jSgM Dy h → jSm fp_X12_isTorn_r125 h0 h → jX m_X12_isTorn 1 0 0 90 [(0, .ref 125), (1, .int l1), (2, .int l2), (3, .int l3), (5, .int l5)] [.int 1] h 0 0 Q := by
  intro l1 l2 l3 l5 h y0 y1 y2 y3  m6 J Sm
  refine x_istore (lsx9 := [(4, .int 1), (0, .ref 125), (1, .int l1), (2, .int l2), (3, .int l3), (5, .int l5)]) rfl rfl rfl ?_
  refine z_iinc (x := l5) (lsx9 := fun v1 => [(5, .int v1), (4, .int 1), (0, .ref 125), (1, .int l1), (2, .int l2), (3, .int l3)]) rfl rfl rfl jko_1 (by omega) rfl (fun _ => rfl) (fun v1 ev1 => ?_)
  refine x_goto (tgt := 6) rfl rfl ?_
  exact jX.sub (jsb_c rfl (jsb_c rfl (jsb_c rfl (jsb_c rfl (jsb_c rfl (jsb_c rfl jsb_n)))))) (k6 l1 l2 l3 1 v1 h (by omega) (jr_of rfl (by omega)) (jr_of rfl (by omega)) (jr_of rfl (by omega)) (jr_of jk_1 (by omega)) (jr_of rfl (by omega)) J Sm)
set_option maxRecDepth 100000 in
set_option maxHeartbeats 4000000 in
theorem ct_X12_isTorn_r125_200090 {Dy : jH → Prop} {h0 : jH} {Q : Option Value → jH → Prop} {R6 : Int} (hD : jDk Dy) (hQ : ∀ (v : Int32) hx9, 0 ≤ v.toInt ∧ v.toInt ≤ 1 → jJ jSgM Dy hx9 → jSm fp_X12_isTorn_r125 h0 hx9 → Q (some (.int v)) hx9) (k6 : ∀ (l1 : Int32) (l2 : Int32) (l3 : Int32) (l4 : Int32) (l5 : Int32) (h : jH), 20 - l5.toInt < R6 → 0 ≤ l1.toInt ∧ l1.toInt ≤ 5 → 0 ≤ l2.toInt ∧ l2.toInt ≤ 146399 → (-146399) ≤ l3.toInt ∧ l3.toInt ≤ 292798 → 0 ≤ l4.toInt ∧ l4.toInt ≤ 1 → 0 ≤ l5.toInt ∧ l5.toInt ≤ 20 → jJ jSgM Dy h → jSm fp_X12_isTorn_r125 h0 h → jX m_X12_isTorn 1 0 0 6 [(0, .ref 125), (1, .int l1), (2, .int l2), (3, .int l3), (4, .int l4), (5, .int l5)] [] h 0 0 Q) : ∀ (l1 : Int32) (l2 : Int32) (l3 : Int32) (l5 : Int32) (h : jH), 0 ≤ l1.toInt ∧ l1.toInt ≤ 5 → 0 ≤ l2.toInt ∧ l2.toInt ≤ 146399 → (-146399) ≤ l3.toInt ∧ l3.toInt ≤ 292798 → 0 ≤ l5.toInt ∧ l5.toInt ≤ 19 → 20 - l5.toInt ≤ R6 → jJ jSgM Dy h → jSm fp_X12_isTorn_r125 h0 h → jX m_X12_isTorn 1 0 0 90 [(0, .ref 125), (1, .int l1), (2, .int l2), (3, .int l3), (5, .int l5)] [.int 0] h 0 0 Q := by
  intro l1 l2 l3 l5 h y0 y1 y2 y3  m6 J Sm
  refine x_istore (lsx9 := [(4, .int 0), (0, .ref 125), (1, .int l1), (2, .int l2), (3, .int l3), (5, .int l5)]) rfl rfl rfl ?_
  refine z_iinc (x := l5) (lsx9 := fun v1 => [(5, .int v1), (4, .int 0), (0, .ref 125), (1, .int l1), (2, .int l2), (3, .int l3)]) rfl rfl rfl jko_1 (by omega) rfl (fun _ => rfl) (fun v1 ev1 => ?_)
  refine x_goto (tgt := 6) rfl rfl ?_
  exact jX.sub (jsb_c rfl (jsb_c rfl (jsb_c rfl (jsb_c rfl (jsb_c rfl (jsb_c rfl jsb_n)))))) (k6 l1 l2 l3 0 v1 h (by omega) (jr_of rfl (by omega)) (jr_of rfl (by omega)) (jr_of rfl (by omega)) (jr_of jk_0 (by omega)) (jr_of rfl (by omega)) J Sm)
set_option maxRecDepth 100000 in
set_option maxHeartbeats 4000000 in
theorem ct_X12_isTorn_r125_85 {Dy : jH → Prop} {h0 : jH} {Q : Option Value → jH → Prop} {R6 : Int} (hD : jDk Dy) (hQ : ∀ (v : Int32) hx9, 0 ≤ v.toInt ∧ v.toInt ≤ 1 → jJ jSgM Dy hx9 → jSm fp_X12_isTorn_r125 h0 hx9 → Q (some (.int v)) hx9) (k6 : ∀ (l1 : Int32) (l2 : Int32) (l3 : Int32) (l4 : Int32) (l5 : Int32) (h : jH), 20 - l5.toInt < R6 → 0 ≤ l1.toInt ∧ l1.toInt ≤ 5 → 0 ≤ l2.toInt ∧ l2.toInt ≤ 146399 → (-146399) ≤ l3.toInt ∧ l3.toInt ≤ 292798 → 0 ≤ l4.toInt ∧ l4.toInt ≤ 1 → 0 ≤ l5.toInt ∧ l5.toInt ≤ 20 → jJ jSgM Dy h → jSm fp_X12_isTorn_r125 h0 h → jX m_X12_isTorn 1 0 0 6 [(0, .ref 125), (1, .int l1), (2, .int l2), (3, .int l3), (4, .int l4), (5, .int l5)] [] h 0 0 Q) : ∀ (l1 : Int32) (l2 : Int32) (l3 : Int32) (l5 : Int32) (h : jH), 0 ≤ l1.toInt ∧ l1.toInt ≤ 5 → 0 ≤ l2.toInt ∧ l2.toInt ≤ 146399 → (-146399) ≤ l3.toInt ∧ l3.toInt ≤ 292798 → 0 ≤ l5.toInt ∧ l5.toInt ≤ 19 → 20 - l5.toInt ≤ R6 → jJ jSgM Dy h → jSm fp_X12_isTorn_r125 h0 h → jX m_X12_isTorn 1 0 0 85 [(0, .ref 125), (1, .int l1), (2, .int l2), (3, .int l3), (5, .int l5)] [] h 0 0 Q := by
  intro l1 l2 l3 l5 h y0 y1 y2 y3  m6 J Sm
  refine x_iconst (v := 1) rfl ki_1 ?_
  refine x_goto (tgt := 90) rfl rfl ?_
  exact jX.sub (jsb_c rfl (jsb_c rfl (jsb_c rfl (jsb_c rfl (jsb_c rfl jsb_n))))) (ct_X12_isTorn_r125_300090 hD hQ k6 l1 l2 l3 l5 h (jr_of rfl (by omega)) (jr_of rfl (by omega)) (jr_of rfl (by omega)) (jr_of rfl (by omega)) (by omega) J Sm)
set_option maxRecDepth 100000 in
set_option maxHeartbeats 4000000 in
theorem ct_X12_isTorn_r125_89 {Dy : jH → Prop} {h0 : jH} {Q : Option Value → jH → Prop} {R6 : Int} (hD : jDk Dy) (hQ : ∀ (v : Int32) hx9, 0 ≤ v.toInt ∧ v.toInt ≤ 1 → jJ jSgM Dy hx9 → jSm fp_X12_isTorn_r125 h0 hx9 → Q (some (.int v)) hx9) (k6 : ∀ (l1 : Int32) (l2 : Int32) (l3 : Int32) (l4 : Int32) (l5 : Int32) (h : jH), 20 - l5.toInt < R6 → 0 ≤ l1.toInt ∧ l1.toInt ≤ 5 → 0 ≤ l2.toInt ∧ l2.toInt ≤ 146399 → (-146399) ≤ l3.toInt ∧ l3.toInt ≤ 292798 → 0 ≤ l4.toInt ∧ l4.toInt ≤ 1 → 0 ≤ l5.toInt ∧ l5.toInt ≤ 20 → jJ jSgM Dy h → jSm fp_X12_isTorn_r125 h0 h → jX m_X12_isTorn 1 0 0 6 [(0, .ref 125), (1, .int l1), (2, .int l2), (3, .int l3), (4, .int l4), (5, .int l5)] [] h 0 0 Q) : ∀ (l1 : Int32) (l2 : Int32) (l3 : Int32) (l5 : Int32) (h : jH), 0 ≤ l1.toInt ∧ l1.toInt ≤ 5 → 0 ≤ l2.toInt ∧ l2.toInt ≤ 146399 → (-146399) ≤ l3.toInt ∧ l3.toInt ≤ 292798 → 0 ≤ l5.toInt ∧ l5.toInt ≤ 19 → 20 - l5.toInt ≤ R6 → jJ jSgM Dy h → jSm fp_X12_isTorn_r125 h0 h → jX m_X12_isTorn 1 0 0 89 [(0, .ref 125), (1, .int l1), (2, .int l2), (3, .int l3), (5, .int l5)] [] h 0 0 Q := by
  intro l1 l2 l3 l5 h y0 y1 y2 y3  m6 J Sm
  refine x_iconst (v := 0) rfl ki_0 ?_
  exact jX.sub (jsb_c rfl (jsb_c rfl (jsb_c rfl (jsb_c rfl (jsb_c rfl jsb_n))))) (ct_X12_isTorn_r125_200090 hD hQ k6 l1 l2 l3 l5 h (jr_of rfl (by omega)) (jr_of rfl (by omega)) (jr_of rfl (by omega)) (jr_of rfl (by omega)) (by omega) J Sm)
set_option maxRecDepth 100000 in
set_option maxHeartbeats 4000000 in
theorem ct_X12_isTorn_r125_6 {Dy : jH → Prop} {h0 : jH} {Q : Option Value → jH → Prop} (hD : jDk Dy) (hQ : ∀ (v : Int32) hx9, 0 ≤ v.toInt ∧ v.toInt ≤ 1 → jJ jSgM Dy hx9 → jSm fp_X12_isTorn_r125 h0 hx9 → Q (some (.int v)) hx9) : ∀ r : Nat, ∀ (l1 : Int32) (l2 : Int32) (l3 : Int32) (l4 : Int32) (l5 : Int32) (h : jH), 20 - l5.toInt < (r : Int) → 0 ≤ l1.toInt ∧ l1.toInt ≤ 5 → 0 ≤ l2.toInt ∧ l2.toInt ≤ 146399 → (-146399) ≤ l3.toInt ∧ l3.toInt ≤ 292798 → 0 ≤ l4.toInt ∧ l4.toInt ≤ 1 → 0 ≤ l5.toInt ∧ l5.toInt ≤ 20 → jJ jSgM Dy h → jSm fp_X12_isTorn_r125 h0 h → jX m_X12_isTorn 1 0 0 6 [(0, .ref 125), (1, .int l1), (2, .int l2), (3, .int l3), (4, .int l4), (5, .int l5)] [] h 0 0 Q := by
  intro r
  induction r with
  | zero =>
    intro l1 l2 l3 l4 l5 h hm y0 y1 y2 y3 y4   J Sm
    exfalso
    omega
  | succ r ih =>
    intro l1 l2 l3 l4 l5 h hm y0 y1 y2 y3 y4   J Sm
    refine x_iload (x := l5) rfl rfl ?_
    refine x_aloadn (x := 125) rfl rfl ?_
    refine z_getR (N := 92) (b := 126) 12 2 rfl f_12_8 rfl J rfl 16002 ⟨rfl, rfl⟩ rfl ?_
    refine x_iconst (v := 3) rfl ki_3 ?_
    refine z_iald (N := 50660) rfl J rfl sg_126_3_4_1_0_1 jk_3 (by omega) (fun v1 qv1 ev1 => ?_)
    refine x_icge (tgt := 98) rfl rfl (ti_ge rfl rfl ⟨fun c2 => ?_, fun c2 => ?_⟩)
    ·
      refine x_iload (x := l4) rfl rfl ?_
      refine x_zret rfl rfl (jz01 (by omega)) ?_
      exact hQ _ _ (jr_of rfl (by omega)) J Sm
    ·
      refine x_sipush (v := 18740) rfl ks_18740 ?_
      refine x_iconst (v := 4) rfl ki_4 ?_
      refine x_iload (x := l5) rfl rfl ?_
      refine z_imul rfl jk_4 rfl (by omega) (fun v3 ev3 => ?_)
      refine z_iadd rfl jk_18740 rfl (by omega) (fun v4 ev4 => ?_)
      refine x_istore (lsx9 := [(6, .int v4), (0, .ref 125), (1, .int l1), (2, .int l2), (3, .int l3), (4, .int l4), (5, .int l5)]) rfl rfl rfl ?_
      refine x_iload (x := l4) rfl rfl ?_
      refine x_ifne (tgt := 85) rfl rfl (ti_ne rfl jk_0 ⟨fun c5 => ?_, fun c5 => ?_⟩)
      ·
        exact jX.sub (jsb_c rfl (jsb_c rfl (jsb_c rfl (jsb_c rfl (jsb_c rfl jsb_n))))) (ct_X12_isTorn_r125_85 hD hQ ih l1 l2 l3 l5 h (jr_of rfl (by omega)) (jr_of rfl (by omega)) (jr_of rfl (by omega)) (jr_of rfl (by omega)) (by omega) J Sm)
      ·
        refine x_aloadn (x := 125) rfl rfl ?_
        refine z_getR (N := 92) (b := 126) 12 2 rfl f_12_8 rfl J rfl 16002 ⟨rfl, rfl⟩ rfl ?_
        refine x_iload (x := v4) rfl rfl ?_
        refine z_iald (N := 50660) rfl J rfl sg_126_18740_18820_4_0_1 rfl (by omega) (fun v6 qv6 ev6 => ?_)
        refine x_iloadn (x := l1) rfl rfl ?_
        refine x_icne (tgt := 89) rfl rfl (ti_ne rfl rfl ⟨fun c7 => ?_, fun c7 => ?_⟩)
        ·
          exact jX.sub (jsb_c rfl (jsb_c rfl (jsb_c rfl (jsb_c rfl (jsb_c rfl jsb_n))))) (ct_X12_isTorn_r125_89 hD hQ ih l1 l2 l3 l5 h (jr_of rfl (by omega)) (jr_of rfl (by omega)) (jr_of rfl (by omega)) (jr_of rfl (by omega)) (by omega) J Sm)
        ·
          refine x_aloadn (x := 125) rfl rfl ?_
          refine z_getR (N := 92) (b := 126) 12 2 rfl f_12_8 rfl J rfl 16002 ⟨rfl, rfl⟩ rfl ?_
          refine x_iload (x := v4) rfl rfl ?_
          refine x_iconst (v := 3) rfl ki_3 ?_
          refine z_iadd rfl rfl jk_3 (by omega) (fun v8 ev8 => ?_)
          refine z_iald (N := 50660) rfl J rfl sg_126_18740_18820_4_3_4 rfl (by omega) (fun v9 qv9 ev9 => ?_)
          refine x_aloadn (x := 125) rfl rfl ?_
          refine z_getI (N := 92) 12 28 rfl f_12_377 rfl J rfl sg_125_28_29_1_0_1 (fun v10 qv10 ev10 => ?_)
          refine x_icgt (tgt := 89) rfl rfl (ti_gt rfl rfl ⟨fun c11 => ?_, fun c11 => ?_⟩)
          ·
            exact jX.sub (jsb_c rfl (jsb_c rfl (jsb_c rfl (jsb_c rfl (jsb_c rfl jsb_n))))) (ct_X12_isTorn_r125_89 hD hQ ih l1 l2 l3 l5 h (jr_of rfl (by omega)) (jr_of rfl (by omega)) (jr_of rfl (by omega)) (jr_of rfl (by omega)) (by omega) J Sm)
          ·
            refine x_aloadn (x := 125) rfl rfl ?_
            refine z_getR (N := 92) (b := 126) 12 2 rfl f_12_8 rfl J rfl 16002 ⟨rfl, rfl⟩ rfl ?_
            refine x_iload (x := v4) rfl rfl ?_
            refine x_iconst (v := 1) rfl ki_1 ?_
            refine z_iadd rfl rfl jk_1 (by omega) (fun v12 ev12 => ?_)
            refine z_iald (N := 50660) rfl J rfl sg_126_18740_18820_4_1_2 rfl (by omega) (fun v13 qv13 ev13 => ?_)
            refine x_iloadn (x := l3) rfl rfl ?_
            refine x_icgt (tgt := 89) rfl rfl (ti_gt rfl rfl ⟨fun c14 => ?_, fun c14 => ?_⟩)
            ·
              exact jX.sub (jsb_c rfl (jsb_c rfl (jsb_c rfl (jsb_c rfl (jsb_c rfl jsb_n))))) (ct_X12_isTorn_r125_89 hD hQ ih l1 l2 l3 l5 h (jr_of rfl (by omega)) (jr_of rfl (by omega)) (jr_of rfl (by omega)) (jr_of rfl (by omega)) (by omega) J Sm)
            ·
              refine x_aloadn (x := 125) rfl rfl ?_
              refine z_getR (N := 92) (b := 126) 12 2 rfl f_12_8 rfl J rfl 16002 ⟨rfl, rfl⟩ rfl ?_
              refine x_iload (x := v4) rfl rfl ?_
              refine x_iconst (v := 2) rfl ki_2 ?_
              refine z_iadd rfl rfl jk_2 (by omega) (fun v15 ev15 => ?_)
              refine z_iald (N := 50660) rfl J rfl sg_126_18740_18820_4_2_3 rfl (by omega) (fun v16 qv16 ev16 => ?_)
              refine x_iloadn (x := l2) rfl rfl ?_
              refine x_iclt (tgt := 89) rfl rfl (ti_lt rfl rfl ⟨fun c17 => ?_, fun c17 => ?_⟩)
              ·
                exact jX.sub (jsb_c rfl (jsb_c rfl (jsb_c rfl (jsb_c rfl (jsb_c rfl jsb_n))))) (ct_X12_isTorn_r125_89 hD hQ ih l1 l2 l3 l5 h (jr_of rfl (by omega)) (jr_of rfl (by omega)) (jr_of rfl (by omega)) (jr_of rfl (by omega)) (by omega) J Sm)
              ·
                exact jX.sub (jsb_c rfl (jsb_c rfl (jsb_c rfl (jsb_c rfl (jsb_c rfl jsb_n))))) (ct_X12_isTorn_r125_85 hD hQ ih l1 l2 l3 l5 h (jr_of rfl (by omega)) (jr_of rfl (by omega)) (jr_of rfl (by omega)) (jr_of rfl (by omega)) (by omega) J Sm)
set_option maxRecDepth 100000 in
set_option maxHeartbeats 4000000 in
theorem sf_X12_isTorn_r125 {Dy : jH → Prop} {h : jH} {Q : Option Value → jH → Prop} {a1 : Int32} {a2 : Int32} {a3 : Int32} (y1 : 0 ≤ a1.toInt ∧ a1.toInt ≤ 5) (y2 : 0 ≤ a2.toInt ∧ a2.toInt ≤ 146399) (y3 : (-146399) ≤ a3.toInt ∧ a3.toInt ≤ 292798) (hD : jDk Dy) (J : jJ jSgM Dy h) (hQ : ∀ (v : Int32) hx9, 0 ≤ v.toInt ∧ v.toInt ≤ 1 → jJ jSgM Dy hx9 → jSm fp_X12_isTorn_r125 h hx9 → Q (some (.int v)) hx9) : jC m_X12_isTorn 1 0 0 [.ref 125, .int a1, .int a2, .int a3] h Q := by
  refine jC.of rfl k_X12_isTorn rfl ?_
  have Sm := jSm_rf fp_X12_isTorn_r125 h
  show jX m_X12_isTorn 1 0 0 0 [(0, .ref 125), (1, .int a1), (2, .int a2), (3, .int a3)] [] _ 0 0 _
  refine x_iconst (v := 0) rfl ki_0 ?_
  refine x_istore (lsx9 := [(4, .int 0), (0, .ref 125), (1, .int a1), (2, .int a2), (3, .int a3)]) rfl rfl rfl ?_
  refine x_iconst (v := 0) rfl ki_0 ?_
  refine x_istore (lsx9 := [(5, .int 0), (4, .int 0), (0, .ref 125), (1, .int a1), (2, .int a2), (3, .int a3)]) rfl rfl rfl ?_
  exact jX.sub (jsb_c rfl (jsb_c rfl (jsb_c rfl (jsb_c rfl (jsb_c rfl (jsb_c rfl jsb_n)))))) (ct_X12_isTorn_r125_6 hD hQ  21 a1 a2 a3 0 0 h (by have := jk_0; omega) (jr_of rfl (by omega)) (jr_of rfl (by omega)) (jr_of rfl (by omega)) (jr_of jk_0 (by omega)) (jr_of jk_0 (by omega)) J Sm)
def fp_X12_guessFilled_r125 : jFp := []
set_option maxRecDepth 100000 in
set_option maxHeartbeats 4000000 in
theorem ct_X12_guessFilled_r125_220 {Dy : jH → Prop} {h0 : jH} {Q : Option Value → jH → Prop} (hD : jDk Dy) (hQ : ∀ (v : Int32) hx9, jJ jSgM Dy hx9 → jSm fp_X12_guessFilled_r125 h0 hx9 → Q (some (.int v)) hx9) : ∀ (s0 : Int32) (h : jH), jJ jSgM Dy h → jSm fp_X12_guessFilled_r125 h0 h → jX m_X12_guessFilled 3 0 0 220 [] [.int s0] h 0 0 Q := by
  intro s0 h    J Sm
  have es0 := jfull s0
  refine x_iret rfl rfl ?_
  exact hQ _ _ J Sm
set_option maxRecDepth 100000 in
set_option maxHeartbeats 4000000 in
theorem ct_X12_guessFilled_r125_200220 {Dy : jH → Prop} {h0 : jH} {Q : Option Value → jH → Prop} (hD : jDk Dy) (hQ : ∀ (v : Int32) hx9, jJ jSgM Dy hx9 → jSm fp_X12_guessFilled_r125 h0 hx9 → Q (some (.int v)) hx9) : ∀ (h : jH), jJ jSgM Dy h → jSm fp_X12_guessFilled_r125 h0 h → jX m_X12_guessFilled 3 0 0 220 [] [.int 0] h 0 0 Q := by
  intro  h    J Sm
  refine x_iret rfl rfl ?_
  exact hQ _ _ J Sm
set_option maxRecDepth 100000 in
set_option maxHeartbeats 4000000 in
theorem ct_X12_guessFilled_r125_5000176 {Dy : jH → Prop} {h0 : jH} {Q : Option Value → jH → Prop} {R70 : Int} (hD : jDk Dy) (hQ : ∀ (v : Int32) hx9, jJ jSgM Dy hx9 → jSm fp_X12_guessFilled_r125 h0 hx9 → Q (some (.int v)) hx9) (k70 : ∀ (l1 : Int32) (l2 : Int32) (l3 : Int32) (l4 : Int64) (l6 : Int64) (l8 : Int32) (h : jH), 200 - l8.toInt < R70 → 0 ≤ l1.toInt ∧ l1.toInt ≤ 5 → 0 ≤ l2.toInt ∧ l2.toInt ≤ 146399 → 0 ≤ l3.toInt ∧ l3.toInt ≤ 146399 → 0 ≤ l4.toInt ∧ l4.toInt ≤ 153719 → 0 ≤ l8.toInt ∧ l8.toInt ≤ 200 → jJ jSgM Dy h → jSm fp_X12_guessFilled_r125 h0 h → jX m_X12_guessFilled 3 0 0 70 [(0, .ref 125), (1, .int l1), (2, .int l2), (3, .int l3), (4, .long l4), (6, .long l6), (8, .int l8)] [] h 0 0 Q) : ∀ (l1 : Int32) (l2 : Int32) (l3 : Int32) (l4 : Int64) (l8 : Int32) (s0 : Int64) (s1 : Int64) (h : jH), 0 ≤ l1.toInt ∧ l1.toInt ≤ 5 → 0 ≤ l2.toInt ∧ l2.toInt ≤ 146399 → 0 ≤ l3.toInt ∧ l3.toInt ≤ 146399 → 0 ≤ l4.toInt ∧ l4.toInt ≤ 153719 → 0 ≤ l8.toInt ∧ l8.toInt ≤ 199 → 0 ≤ s0.toInt ∧ s0.toInt ≤ 1 → 200 - l8.toInt ≤ R70 → jJ jSgM Dy h → jSm fp_X12_guessFilled_r125 h0 h → jX m_X12_guessFilled 3 0 0 176 [(0, .ref 125), (1, .int l1), (2, .int l2), (3, .int l3), (4, .long l4), (8, .int l8)] [.long s0, .long s1] h 0 0 Q := by
  intro l1 l2 l3 l4 l8 s0 s1 h y0 y1 y2 y3 y4 y5  m70 J Sm
  have es1 := jfullL s1
  refine z_ladd0 rfl (fun v1 => ?_)
  have ev1 := jfullL v1
  refine x_lstore (lsx9 := [(6, .long v1), (0, .ref 125), (1, .int l1), (2, .int l2), (3, .int l3), (4, .long l4), (8, .int l8)]) rfl rfl rfl ?_
  refine z_iinc (x := l8) (lsx9 := fun v2 => [(8, .int v2), (6, .long v1), (0, .ref 125), (1, .int l1), (2, .int l2), (3, .int l3), (4, .long l4)]) rfl rfl rfl jko_1 (by omega) rfl (fun _ => rfl) (fun v2 ev2 => ?_)
  refine x_goto (tgt := 70) rfl rfl ?_
  exact jX.sub (jsb_c rfl (jsb_c rfl (jsb_c rfl (jsb_c rfl (jsb_c rfl (jsb_c rfl (jsb_c rfl jsb_n))))))) (k70 l1 l2 l3 l4 v1 v2 h (by omega) (jr_of rfl (by omega)) (jr_of rfl (by omega)) (jr_of rfl (by omega)) (jr_ofl rfl (by omega)) (jr_of rfl (by omega)) J Sm)
set_option maxRecDepth 100000 in
set_option maxHeartbeats 4000000 in
theorem ct_X12_guessFilled_r125_175 {Dy : jH → Prop} {h0 : jH} {Q : Option Value → jH → Prop} {R70 : Int} (hD : jDk Dy) (hQ : ∀ (v : Int32) hx9, jJ jSgM Dy hx9 → jSm fp_X12_guessFilled_r125 h0 hx9 → Q (some (.int v)) hx9) (k70 : ∀ (l1 : Int32) (l2 : Int32) (l3 : Int32) (l4 : Int64) (l6 : Int64) (l8 : Int32) (h : jH), 200 - l8.toInt < R70 → 0 ≤ l1.toInt ∧ l1.toInt ≤ 5 → 0 ≤ l2.toInt ∧ l2.toInt ≤ 146399 → 0 ≤ l3.toInt ∧ l3.toInt ≤ 146399 → 0 ≤ l4.toInt ∧ l4.toInt ≤ 153719 → 0 ≤ l8.toInt ∧ l8.toInt ≤ 200 → jJ jSgM Dy h → jSm fp_X12_guessFilled_r125 h0 h → jX m_X12_guessFilled 3 0 0 70 [(0, .ref 125), (1, .int l1), (2, .int l2), (3, .int l3), (4, .long l4), (6, .long l6), (8, .int l8)] [] h 0 0 Q) : ∀ (l1 : Int32) (l2 : Int32) (l3 : Int32) (l4 : Int64) (l8 : Int32) (s0 : Int64) (h : jH), 0 ≤ l1.toInt ∧ l1.toInt ≤ 5 → 0 ≤ l2.toInt ∧ l2.toInt ≤ 146399 → 0 ≤ l3.toInt ∧ l3.toInt ≤ 146399 → 0 ≤ l4.toInt ∧ l4.toInt ≤ 153719 → 0 ≤ l8.toInt ∧ l8.toInt ≤ 199 → 200 - l8.toInt ≤ R70 → jJ jSgM Dy h → jSm fp_X12_guessFilled_r125 h0 h → jX m_X12_guessFilled 3 0 0 175 [(0, .ref 125), (1, .int l1), (2, .int l2), (3, .int l3), (4, .long l4), (8, .int l8)] [.long s0] h 0 0 Q := by
  intro l1 l2 l3 l4 l8 s0 h y0 y1 y2 y3 y4  m70 J Sm
  have es0 := jfullL s0
  refine x_lconst (v := 0) rfl kl_0 ?_
  exact jX.sub (jsb_c rfl (jsb_c rfl (jsb_c rfl (jsb_c rfl (jsb_c rfl (jsb_c rfl jsb_n)))))) (ct_X12_guessFilled_r125_5000176 hD hQ k70 l1 l2 l3 l4 l8 0 s0 h (jr_of rfl (by omega)) (jr_of rfl (by omega)) (jr_of rfl (by omega)) (jr_ofl rfl (by omega)) (jr_of rfl (by omega)) (jr_ofl jkl_0 (by omega)) (by omega) J Sm)
set_option maxRecDepth 100000 in
set_option maxHeartbeats 4000000 in
theorem ct_X12_guessFilled_r125_300127 {Dy : jH → Prop} {h0 : jH} {Q : Option Value → jH → Prop} {R70 : Int} (hD : jDk Dy) (hQ : ∀ (v : Int32) hx9, jJ jSgM Dy hx9 → jSm fp_X12_guessFilled_r125 h0 hx9 → Q (some (.int v)) hx9) (k70 : ∀ (l1 : Int32) (l2 : Int32) (l3 : Int32) (l4 : Int64) (l6 : Int64) (l8 : Int32) (h : jH), 200 - l8.toInt < R70 → 0 ≤ l1.toInt ∧ l1.toInt ≤ 5 → 0 ≤ l2.toInt ∧ l2.toInt ≤ 146399 → 0 ≤ l3.toInt ∧ l3.toInt ≤ 146399 → 0 ≤ l4.toInt ∧ l4.toInt ≤ 153719 → 0 ≤ l8.toInt ∧ l8.toInt ≤ 200 → jJ jSgM Dy h → jSm fp_X12_guessFilled_r125 h0 h → jX m_X12_guessFilled 3 0 0 70 [(0, .ref 125), (1, .int l1), (2, .int l2), (3, .int l3), (4, .long l4), (6, .long l6), (8, .int l8)] [] h 0 0 Q) : ∀ (l1 : Int32) (l2 : Int32) (l3 : Int32) (l4 : Int64) (l6 : Int64) (l8 : Int32) (l9 : Int32) (h : jH), 0 ≤ l1.toInt ∧ l1.toInt ≤ 5 → 0 ≤ l2.toInt ∧ l2.toInt ≤ 146399 → 0 ≤ l3.toInt ∧ l3.toInt ≤ 146399 → 0 ≤ l4.toInt ∧ l4.toInt ≤ 153719 → 0 ≤ l8.toInt ∧ l8.toInt ≤ 199 → 0 ≤ l9.toInt ∧ l9.toInt ≤ 146399 → 200 - l8.toInt ≤ R70 → jJ jSgM Dy h → jSm fp_X12_guessFilled_r125 h0 h → jX m_X12_guessFilled 3 0 0 127 [(0, .ref 125), (1, .int l1), (2, .int l2), (3, .int l3), (4, .long l4), (6, .long l6), (8, .int l8), (9, .int l9)] [.int 1] h 0 0 Q := by
  intro l1 l2 l3 l4 l6 l8 l9 h y0 y1 y2 y3 y4 y5  m70 J Sm
  have el6 := jfullL l6
  refine x_istore (lsx9 := [(10, .int 1), (0, .ref 125), (1, .int l1), (2, .int l2), (3, .int l3), (4, .long l4), (6, .long l6), (8, .int l8), (9, .int l9)]) rfl rfl rfl ?_
  refine x_lload (x := l6) rfl rfl ?_
  refine x_aloadn (x := 125) rfl rfl ?_
  refine x_iload (x := l8) rfl rfl ?_
  refine x_inv (N := m_X12_bookOf) (As := [.int l8]) (b := 125) (st := [.long l6]) (dx9 := 2) (mc := 0) (ms := 0) (host := "") 12 rfl t_X12_bookOf ⟨Or.inl q_12_299, i_X12_bookOf.1, i_X12_bookOf.2⟩ ⟨by decide, rfl⟩ (congrArg Prod.fst (J.1.1 125 (12, 92) rfl)) rfl (by decide) rfl rfl ⟨by decide, by decide⟩ (jC.of rfl k_X12_bookOf rfl ?_)
  show jX m_X12_bookOf 2 0 0 0 [(0, .ref 125), (1, .int l8)] [] _ 0 0 _
  refine x_aloadn (x := 125) rfl rfl ?_
  refine z_getR (N := 92) (b := 126) 12 2 rfl f_12_8 rfl J rfl 16002 ⟨rfl, rfl⟩ rfl ?_
  refine x_aloadn (x := 125) rfl rfl ?_
  refine x_iloadn (x := l8) rfl rfl ?_
  refine x_inv (N := m_X12_at) (As := [.int l8]) (b := 125) (st := [.ref 126]) (dx9 := 1) (mc := 0) (ms := 0) (host := "") 12 rfl t_X12_at ⟨Or.inl q_12_254, i_X12_at.1, i_X12_at.2⟩ ⟨by decide, rfl⟩ (congrArg Prod.fst (J.1.1 125 (12, 92) rfl)) rfl (by decide) rfl rfl ⟨by decide, by decide⟩ (jC.of rfl k_X12_at rfl ?_)
  show jX m_X12_at 1 0 0 0 [(0, .ref 125), (1, .int l8)] [] _ 0 0 _
  refine x_bipush (v := 20) rfl kb_20 ?_
  refine x_bipush (v := 90) rfl kb_90 ?_
  refine x_iloadn (x := l8) rfl rfl ?_
  refine z_imul rfl jk_90 rfl (by omega) (fun v1 ev1 => ?_)
  refine z_iadd rfl jk_20 rfl (by omega) (fun v2 ev2 => ?_)
  refine x_iret rfl rfl ?_
  show jX m_X12_bookOf 2 0 0 9 [(0, .ref 125), (1, .int l8)] [.int v2, .ref 126] _ 0 0 _
  refine z_iald (N := 50660) rfl J rfl sg_126_20_18020_90_0_1 rfl (by omega) (fun v3 qv3 ev3 => ?_)
  refine x_iret rfl rfl ?_
  show jX m_X12_guessFilled 3 0 0 137 [(10, .int 1), (0, .ref 125), (1, .int l1), (2, .int l2), (3, .int l3), (4, .long l4), (6, .long l6), (8, .int l8), (9, .int l9)] [.int v3, .long l6] _ 0 0 _
  refine x_iloadn (x := l1) rfl rfl ?_
  refine x_icne (tgt := 175) rfl rfl (ti_ne rfl rfl ⟨fun c4 => ?_, fun c4 => ?_⟩)
  ·
    exact jX.sub (jsb_c rfl (jsb_c rfl (jsb_c rfl (jsb_c rfl (jsb_c rfl (jsb_c rfl jsb_n)))))) (ct_X12_guessFilled_r125_175 hD hQ k70 l1 l2 l3 l4 l8 l6 h (jr_of rfl (by omega)) (jr_of rfl (by omega)) (jr_of rfl (by omega)) (jr_ofl rfl (by omega)) (jr_of rfl (by omega)) (by omega) J Sm)
  ·
    refine x_aloadn (x := 125) rfl rfl ?_
    refine x_iload (x := l8) rfl rfl ?_
    refine x_aloadn (x := 125) rfl rfl ?_
    refine z_getI (N := 92) 12 28 rfl f_12_377 rfl J rfl sg_125_28_29_1_0_1 (fun v5 qv5 ev5 => ?_)
    refine x_inv (N := m_X12_isKnown) (As := [.int l8, .int v5]) (b := 125) (st := [.long l6]) (dx9 := 2) (mc := 0) (ms := 0) (host := "") 12 rfl t_X12_isKnown ⟨Or.inl q_12_383, i_X12_isKnown.1, i_X12_isKnown.2⟩ ⟨by decide, rfl⟩ (congrArg Prod.fst (J.1.1 125 (12, 92) rfl)) rfl (by decide) rfl rfl ⟨by decide, by decide⟩ (jC.of rfl k_X12_isKnown rfl ?_)
    show jX m_X12_isKnown 2 0 0 0 [(0, .ref 125), (1, .int l8), (2, .int v5)] [] _ 0 0 _
    refine x_aloadn (x := 125) rfl rfl ?_
    refine z_getR (N := 92) (b := 126) 12 2 rfl f_12_8 rfl J rfl 16002 ⟨rfl, rfl⟩ rfl ?_
    refine x_aloadn (x := 125) rfl rfl ?_
    refine x_iloadn (x := l8) rfl rfl ?_
    refine x_inv (N := m_X12_at) (As := [.int l8]) (b := 125) (st := [.ref 126]) (dx9 := 1) (mc := 0) (ms := 0) (host := "") 12 rfl t_X12_at ⟨Or.inl q_12_254, i_X12_at.1, i_X12_at.2⟩ ⟨by decide, rfl⟩ (congrArg Prod.fst (J.1.1 125 (12, 92) rfl)) rfl (by decide) rfl rfl ⟨by decide, by decide⟩ (jC.of rfl k_X12_at rfl ?_)
    show jX m_X12_at 1 0 0 0 [(0, .ref 125), (1, .int l8)] [] _ 0 0 _
    refine x_bipush (v := 20) rfl kb_20 ?_
    refine x_bipush (v := 90) rfl kb_90 ?_
    refine x_iloadn (x := l8) rfl rfl ?_
    refine z_imul rfl jk_90 rfl (by omega) (fun v6 ev6 => ?_)
    refine z_iadd rfl jk_20 rfl (by omega) (fun v7 ev7 => ?_)
    refine x_iret rfl rfl ?_
    show jX m_X12_isKnown 2 0 0 9 [(0, .ref 125), (1, .int l8), (2, .int v5)] [.int v7, .ref 126] _ 0 0 _
    refine x_iconst (v := 3) rfl ki_3 ?_
    refine z_iadd rfl rfl jk_3 (by omega) (fun v8 ev8 => ?_)
    refine z_iald (N := 50660) rfl J rfl sg_126_20_18020_90_3_4 rfl (by omega) (fun v9 qv9 ev9 => ?_)
    refine x_iloadn (x := v5) rfl rfl ?_
    refine x_icgt (tgt := 20) rfl rfl (ti_gt rfl rfl ⟨fun c10 => ?_, fun c10 => ?_⟩)
    ·
      refine x_iconst (v := 0) rfl ki_0 ?_
      refine x_zret rfl rfl (by decide) ?_
      show jX m_X12_guessFilled 3 0 0 151 [(10, .int 1), (0, .ref 125), (1, .int l1), (2, .int l2), (3, .int l3), (4, .long l4), (6, .long l6), (8, .int l8), (9, .int l9)] [.int 0, .long l6] _ 0 0 _
      refine x_ifeq (tgt := 175) rfl rfl (ti_eq jk_0 jk_0 (br_t (by omega) ?_))
      exact jX.sub (jsb_c rfl (jsb_c rfl (jsb_c rfl (jsb_c rfl (jsb_c rfl (jsb_c rfl jsb_n)))))) (ct_X12_guessFilled_r125_175 hD hQ k70 l1 l2 l3 l4 l8 l6 h (jr_of rfl (by omega)) (jr_of rfl (by omega)) (jr_of rfl (by omega)) (jr_ofl rfl (by omega)) (jr_of rfl (by omega)) (by omega) J Sm)
    ·
      refine x_iconst (v := 1) rfl ki_1 ?_
      refine x_goto (tgt := 21) rfl rfl ?_
      refine x_zret rfl rfl (by decide) ?_
      show jX m_X12_guessFilled 3 0 0 151 [(10, .int 1), (0, .ref 125), (1, .int l1), (2, .int l2), (3, .int l3), (4, .long l4), (6, .long l6), (8, .int l8), (9, .int l9)] [.int 1, .long l6] _ 0 0 _
      refine x_ifeq (tgt := 175) rfl rfl (ti_eq jk_1 jk_0 (br_f (by omega) ?_))
      refine x_iload (x := 1) rfl rfl ?_
      refine x_ifeq (tgt := 175) rfl rfl (ti_eq jk_1 jk_0 (br_f (by omega) ?_))
      refine x_aloadn (x := 125) rfl rfl ?_
      refine x_iloadn (x := l1) rfl rfl ?_
      refine x_iload (x := l9) rfl rfl ?_
      refine x_iload (x := l9) rfl rfl ?_
      refine x_inv (N := m_X12_isTorn) (As := [.int l1, .int l9, .int l9]) (b := 125) (st := [.long l6]) (dx9 := 1) (mc := 0) (ms := 0) (host := "") 12 rfl t_X12_isTorn ⟨Or.inl q_12_474, i_X12_isTorn.1, i_X12_isTorn.2⟩ ⟨by decide, rfl⟩ (congrArg Prod.fst (J.1.1 125 (12, 92) rfl)) rfl (by decide) rfl rfl ⟨by decide, by decide⟩ (sf_X12_isTorn_r125 (jr_of rfl (by omega)) (jr_of rfl (by omega)) (jr_of rfl (by omega)) hD J  (fun v12 h ev12 J S11 => ?_))
      have Sm := jSm_tr rfl Sm S11
      show jX m_X12_guessFilled 3 0 0 168 [(10, .int 1), (0, .ref 125), (1, .int l1), (2, .int l2), (3, .int l3), (4, .long l4), (6, .long l6), (8, .int l8), (9, .int l9)] [.int v12, .long l6] _ 0 0 _
      refine x_ifne (tgt := 175) rfl rfl (ti_ne rfl jk_0 ⟨fun c13 => ?_, fun c13 => ?_⟩)
      ·
        exact jX.sub (jsb_c rfl (jsb_c rfl (jsb_c rfl (jsb_c rfl (jsb_c rfl (jsb_c rfl jsb_n)))))) (ct_X12_guessFilled_r125_175 hD hQ k70 l1 l2 l3 l4 l8 l6 h (jr_of rfl (by omega)) (jr_of rfl (by omega)) (jr_of rfl (by omega)) (jr_ofl rfl (by omega)) (jr_of rfl (by omega)) (by omega) J Sm)
      ·
        refine x_lconst (v := 1) rfl kl_1 ?_
        refine x_goto (tgt := 176) rfl rfl ?_
        exact jX.sub (jsb_c rfl (jsb_c rfl (jsb_c rfl (jsb_c rfl (jsb_c rfl (jsb_c rfl jsb_n)))))) (ct_X12_guessFilled_r125_5000176 hD hQ k70 l1 l2 l3 l4 l8 1 l6 h (jr_of rfl (by omega)) (jr_of rfl (by omega)) (jr_of rfl (by omega)) (jr_ofl rfl (by omega)) (jr_of rfl (by omega)) (jr_ofl jkl_1 (by omega)) (by omega) J Sm)
set_option maxRecDepth 100000 in
set_option maxHeartbeats 4000000 in
theorem ct_X12_guessFilled_r125_200127 {Dy : jH → Prop} {h0 : jH} {Q : Option Value → jH → Prop} {R70 : Int} (hD : jDk Dy) (hQ : ∀ (v : Int32) hx9, jJ jSgM Dy hx9 → jSm fp_X12_guessFilled_r125 h0 hx9 → Q (some (.int v)) hx9) (k70 : ∀ (l1 : Int32) (l2 : Int32) (l3 : Int32) (l4 : Int64) (l6 : Int64) (l8 : Int32) (h : jH), 200 - l8.toInt < R70 → 0 ≤ l1.toInt ∧ l1.toInt ≤ 5 → 0 ≤ l2.toInt ∧ l2.toInt ≤ 146399 → 0 ≤ l3.toInt ∧ l3.toInt ≤ 146399 → 0 ≤ l4.toInt ∧ l4.toInt ≤ 153719 → 0 ≤ l8.toInt ∧ l8.toInt ≤ 200 → jJ jSgM Dy h → jSm fp_X12_guessFilled_r125 h0 h → jX m_X12_guessFilled 3 0 0 70 [(0, .ref 125), (1, .int l1), (2, .int l2), (3, .int l3), (4, .long l4), (6, .long l6), (8, .int l8)] [] h 0 0 Q) : ∀ (l1 : Int32) (l2 : Int32) (l3 : Int32) (l4 : Int64) (l6 : Int64) (l8 : Int32) (l9 : Int32) (h : jH), 0 ≤ l1.toInt ∧ l1.toInt ≤ 5 → 0 ≤ l2.toInt ∧ l2.toInt ≤ 146399 → 0 ≤ l3.toInt ∧ l3.toInt ≤ 146399 → 0 ≤ l4.toInt ∧ l4.toInt ≤ 153719 → 0 ≤ l8.toInt ∧ l8.toInt ≤ 199 → 0 ≤ l9.toInt ∧ l9.toInt ≤ 146399 → 200 - l8.toInt ≤ R70 → jJ jSgM Dy h → jSm fp_X12_guessFilled_r125 h0 h → jX m_X12_guessFilled 3 0 0 127 [(0, .ref 125), (1, .int l1), (2, .int l2), (3, .int l3), (4, .long l4), (6, .long l6), (8, .int l8), (9, .int l9)] [.int 0] h 0 0 Q := by
  intro l1 l2 l3 l4 l6 l8 l9 h y0 y1 y2 y3 y4 y5  m70 J Sm
  have el6 := jfullL l6
  refine x_istore (lsx9 := [(10, .int 0), (0, .ref 125), (1, .int l1), (2, .int l2), (3, .int l3), (4, .long l4), (6, .long l6), (8, .int l8), (9, .int l9)]) rfl rfl rfl ?_
  refine x_lload (x := l6) rfl rfl ?_
  refine x_aloadn (x := 125) rfl rfl ?_
  refine x_iload (x := l8) rfl rfl ?_
  refine x_inv (N := m_X12_bookOf) (As := [.int l8]) (b := 125) (st := [.long l6]) (dx9 := 2) (mc := 0) (ms := 0) (host := "") 12 rfl t_X12_bookOf ⟨Or.inl q_12_299, i_X12_bookOf.1, i_X12_bookOf.2⟩ ⟨by decide, rfl⟩ (congrArg Prod.fst (J.1.1 125 (12, 92) rfl)) rfl (by decide) rfl rfl ⟨by decide, by decide⟩ (jC.of rfl k_X12_bookOf rfl ?_)
  show jX m_X12_bookOf 2 0 0 0 [(0, .ref 125), (1, .int l8)] [] _ 0 0 _
  refine x_aloadn (x := 125) rfl rfl ?_
  refine z_getR (N := 92) (b := 126) 12 2 rfl f_12_8 rfl J rfl 16002 ⟨rfl, rfl⟩ rfl ?_
  refine x_aloadn (x := 125) rfl rfl ?_
  refine x_iloadn (x := l8) rfl rfl ?_
  refine x_inv (N := m_X12_at) (As := [.int l8]) (b := 125) (st := [.ref 126]) (dx9 := 1) (mc := 0) (ms := 0) (host := "") 12 rfl t_X12_at ⟨Or.inl q_12_254, i_X12_at.1, i_X12_at.2⟩ ⟨by decide, rfl⟩ (congrArg Prod.fst (J.1.1 125 (12, 92) rfl)) rfl (by decide) rfl rfl ⟨by decide, by decide⟩ (jC.of rfl k_X12_at rfl ?_)
  show jX m_X12_at 1 0 0 0 [(0, .ref 125), (1, .int l8)] [] _ 0 0 _
  refine x_bipush (v := 20) rfl kb_20 ?_
  refine x_bipush (v := 90) rfl kb_90 ?_
  refine x_iloadn (x := l8) rfl rfl ?_
  refine z_imul rfl jk_90 rfl (by omega) (fun v1 ev1 => ?_)
  refine z_iadd rfl jk_20 rfl (by omega) (fun v2 ev2 => ?_)
  refine x_iret rfl rfl ?_
  show jX m_X12_bookOf 2 0 0 9 [(0, .ref 125), (1, .int l8)] [.int v2, .ref 126] _ 0 0 _
  refine z_iald (N := 50660) rfl J rfl sg_126_20_18020_90_0_1 rfl (by omega) (fun v3 qv3 ev3 => ?_)
  refine x_iret rfl rfl ?_
  show jX m_X12_guessFilled 3 0 0 137 [(10, .int 0), (0, .ref 125), (1, .int l1), (2, .int l2), (3, .int l3), (4, .long l4), (6, .long l6), (8, .int l8), (9, .int l9)] [.int v3, .long l6] _ 0 0 _
  refine x_iloadn (x := l1) rfl rfl ?_
  refine x_icne (tgt := 175) rfl rfl (ti_ne rfl rfl ⟨fun c4 => ?_, fun c4 => ?_⟩)
  ·
    exact jX.sub (jsb_c rfl (jsb_c rfl (jsb_c rfl (jsb_c rfl (jsb_c rfl (jsb_c rfl jsb_n)))))) (ct_X12_guessFilled_r125_175 hD hQ k70 l1 l2 l3 l4 l8 l6 h (jr_of rfl (by omega)) (jr_of rfl (by omega)) (jr_of rfl (by omega)) (jr_ofl rfl (by omega)) (jr_of rfl (by omega)) (by omega) J Sm)
  ·
    refine x_aloadn (x := 125) rfl rfl ?_
    refine x_iload (x := l8) rfl rfl ?_
    refine x_aloadn (x := 125) rfl rfl ?_
    refine z_getI (N := 92) 12 28 rfl f_12_377 rfl J rfl sg_125_28_29_1_0_1 (fun v5 qv5 ev5 => ?_)
    refine x_inv (N := m_X12_isKnown) (As := [.int l8, .int v5]) (b := 125) (st := [.long l6]) (dx9 := 2) (mc := 0) (ms := 0) (host := "") 12 rfl t_X12_isKnown ⟨Or.inl q_12_383, i_X12_isKnown.1, i_X12_isKnown.2⟩ ⟨by decide, rfl⟩ (congrArg Prod.fst (J.1.1 125 (12, 92) rfl)) rfl (by decide) rfl rfl ⟨by decide, by decide⟩ (jC.of rfl k_X12_isKnown rfl ?_)
    show jX m_X12_isKnown 2 0 0 0 [(0, .ref 125), (1, .int l8), (2, .int v5)] [] _ 0 0 _
    refine x_aloadn (x := 125) rfl rfl ?_
    refine z_getR (N := 92) (b := 126) 12 2 rfl f_12_8 rfl J rfl 16002 ⟨rfl, rfl⟩ rfl ?_
    refine x_aloadn (x := 125) rfl rfl ?_
    refine x_iloadn (x := l8) rfl rfl ?_
    refine x_inv (N := m_X12_at) (As := [.int l8]) (b := 125) (st := [.ref 126]) (dx9 := 1) (mc := 0) (ms := 0) (host := "") 12 rfl t_X12_at ⟨Or.inl q_12_254, i_X12_at.1, i_X12_at.2⟩ ⟨by decide, rfl⟩ (congrArg Prod.fst (J.1.1 125 (12, 92) rfl)) rfl (by decide) rfl rfl ⟨by decide, by decide⟩ (jC.of rfl k_X12_at rfl ?_)
    show jX m_X12_at 1 0 0 0 [(0, .ref 125), (1, .int l8)] [] _ 0 0 _
    refine x_bipush (v := 20) rfl kb_20 ?_
    refine x_bipush (v := 90) rfl kb_90 ?_
    refine x_iloadn (x := l8) rfl rfl ?_
    refine z_imul rfl jk_90 rfl (by omega) (fun v6 ev6 => ?_)
    refine z_iadd rfl jk_20 rfl (by omega) (fun v7 ev7 => ?_)
    refine x_iret rfl rfl ?_
    show jX m_X12_isKnown 2 0 0 9 [(0, .ref 125), (1, .int l8), (2, .int v5)] [.int v7, .ref 126] _ 0 0 _
    refine x_iconst (v := 3) rfl ki_3 ?_
    refine z_iadd rfl rfl jk_3 (by omega) (fun v8 ev8 => ?_)
    refine z_iald (N := 50660) rfl J rfl sg_126_20_18020_90_3_4 rfl (by omega) (fun v9 qv9 ev9 => ?_)
    refine x_iloadn (x := v5) rfl rfl ?_
    refine x_icgt (tgt := 20) rfl rfl (ti_gt rfl rfl ⟨fun c10 => ?_, fun c10 => ?_⟩)
    ·
      refine x_iconst (v := 0) rfl ki_0 ?_
      refine x_zret rfl rfl (by decide) ?_
      show jX m_X12_guessFilled 3 0 0 151 [(10, .int 0), (0, .ref 125), (1, .int l1), (2, .int l2), (3, .int l3), (4, .long l4), (6, .long l6), (8, .int l8), (9, .int l9)] [.int 0, .long l6] _ 0 0 _
      refine x_ifeq (tgt := 175) rfl rfl (ti_eq jk_0 jk_0 (br_t (by omega) ?_))
      exact jX.sub (jsb_c rfl (jsb_c rfl (jsb_c rfl (jsb_c rfl (jsb_c rfl (jsb_c rfl jsb_n)))))) (ct_X12_guessFilled_r125_175 hD hQ k70 l1 l2 l3 l4 l8 l6 h (jr_of rfl (by omega)) (jr_of rfl (by omega)) (jr_of rfl (by omega)) (jr_ofl rfl (by omega)) (jr_of rfl (by omega)) (by omega) J Sm)
    ·
      refine x_iconst (v := 1) rfl ki_1 ?_
      refine x_goto (tgt := 21) rfl rfl ?_
      refine x_zret rfl rfl (by decide) ?_
      show jX m_X12_guessFilled 3 0 0 151 [(10, .int 0), (0, .ref 125), (1, .int l1), (2, .int l2), (3, .int l3), (4, .long l4), (6, .long l6), (8, .int l8), (9, .int l9)] [.int 1, .long l6] _ 0 0 _
      refine x_ifeq (tgt := 175) rfl rfl (ti_eq jk_1 jk_0 (br_f (by omega) ?_))
      refine x_iload (x := 0) rfl rfl ?_
      refine x_ifeq (tgt := 175) rfl rfl (ti_eq jk_0 jk_0 (br_t (by omega) ?_))
      exact jX.sub (jsb_c rfl (jsb_c rfl (jsb_c rfl (jsb_c rfl (jsb_c rfl (jsb_c rfl jsb_n)))))) (ct_X12_guessFilled_r125_175 hD hQ k70 l1 l2 l3 l4 l8 l6 h (jr_of rfl (by omega)) (jr_of rfl (by omega)) (jr_of rfl (by omega)) (jr_ofl rfl (by omega)) (jr_of rfl (by omega)) (by omega) J Sm)
set_option maxRecDepth 100000 in
set_option maxHeartbeats 4000000 in
theorem ct_X12_guessFilled_r125_126 {Dy : jH → Prop} {h0 : jH} {Q : Option Value → jH → Prop} {R70 : Int} (hD : jDk Dy) (hQ : ∀ (v : Int32) hx9, jJ jSgM Dy hx9 → jSm fp_X12_guessFilled_r125 h0 hx9 → Q (some (.int v)) hx9) (k70 : ∀ (l1 : Int32) (l2 : Int32) (l3 : Int32) (l4 : Int64) (l6 : Int64) (l8 : Int32) (h : jH), 200 - l8.toInt < R70 → 0 ≤ l1.toInt ∧ l1.toInt ≤ 5 → 0 ≤ l2.toInt ∧ l2.toInt ≤ 146399 → 0 ≤ l3.toInt ∧ l3.toInt ≤ 146399 → 0 ≤ l4.toInt ∧ l4.toInt ≤ 153719 → 0 ≤ l8.toInt ∧ l8.toInt ≤ 200 → jJ jSgM Dy h → jSm fp_X12_guessFilled_r125 h0 h → jX m_X12_guessFilled 3 0 0 70 [(0, .ref 125), (1, .int l1), (2, .int l2), (3, .int l3), (4, .long l4), (6, .long l6), (8, .int l8)] [] h 0 0 Q) : ∀ (l1 : Int32) (l2 : Int32) (l3 : Int32) (l4 : Int64) (l6 : Int64) (l8 : Int32) (l9 : Int32) (h : jH), 0 ≤ l1.toInt ∧ l1.toInt ≤ 5 → 0 ≤ l2.toInt ∧ l2.toInt ≤ 146399 → 0 ≤ l3.toInt ∧ l3.toInt ≤ 146399 → 0 ≤ l4.toInt ∧ l4.toInt ≤ 153719 → 0 ≤ l8.toInt ∧ l8.toInt ≤ 199 → 0 ≤ l9.toInt ∧ l9.toInt ≤ 146399 → 200 - l8.toInt ≤ R70 → jJ jSgM Dy h → jSm fp_X12_guessFilled_r125 h0 h → jX m_X12_guessFilled 3 0 0 126 [(0, .ref 125), (1, .int l1), (2, .int l2), (3, .int l3), (4, .long l4), (6, .long l6), (8, .int l8), (9, .int l9)] [] h 0 0 Q := by
  intro l1 l2 l3 l4 l6 l8 l9 h y0 y1 y2 y3 y4 y5  m70 J Sm
  have el6 := jfullL l6
  refine x_iconst (v := 0) rfl ki_0 ?_
  exact jX.sub (jsb_c rfl (jsb_c rfl (jsb_c rfl (jsb_c rfl (jsb_c rfl (jsb_c rfl (jsb_c rfl (jsb_c rfl jsb_n)))))))) (ct_X12_guessFilled_r125_200127 hD hQ k70 l1 l2 l3 l4 l6 l8 l9 h (jr_of rfl (by omega)) (jr_of rfl (by omega)) (jr_of rfl (by omega)) (jr_ofl rfl (by omega)) (jr_of rfl (by omega)) (jr_of rfl (by omega)) (by omega) J Sm)
set_option maxRecDepth 100000 in
set_option maxHeartbeats 4000000 in
theorem ct_X12_guessFilled_r125_122 {Dy : jH → Prop} {h0 : jH} {Q : Option Value → jH → Prop} {R70 : Int} (hD : jDk Dy) (hQ : ∀ (v : Int32) hx9, jJ jSgM Dy hx9 → jSm fp_X12_guessFilled_r125 h0 hx9 → Q (some (.int v)) hx9) (k70 : ∀ (l1 : Int32) (l2 : Int32) (l3 : Int32) (l4 : Int64) (l6 : Int64) (l8 : Int32) (h : jH), 200 - l8.toInt < R70 → 0 ≤ l1.toInt ∧ l1.toInt ≤ 5 → 0 ≤ l2.toInt ∧ l2.toInt ≤ 146399 → 0 ≤ l3.toInt ∧ l3.toInt ≤ 146399 → 0 ≤ l4.toInt ∧ l4.toInt ≤ 153719 → 0 ≤ l8.toInt ∧ l8.toInt ≤ 200 → jJ jSgM Dy h → jSm fp_X12_guessFilled_r125 h0 h → jX m_X12_guessFilled 3 0 0 70 [(0, .ref 125), (1, .int l1), (2, .int l2), (3, .int l3), (4, .long l4), (6, .long l6), (8, .int l8)] [] h 0 0 Q) : ∀ (l1 : Int32) (l2 : Int32) (l3 : Int32) (l4 : Int64) (l6 : Int64) (l8 : Int32) (l9 : Int32) (h : jH), 0 ≤ l1.toInt ∧ l1.toInt ≤ 5 → 0 ≤ l2.toInt ∧ l2.toInt ≤ 146399 → 0 ≤ l3.toInt ∧ l3.toInt ≤ 146399 → 0 ≤ l4.toInt ∧ l4.toInt ≤ 153719 → 0 ≤ l8.toInt ∧ l8.toInt ≤ 199 → 0 ≤ l9.toInt ∧ l9.toInt ≤ 146399 → 200 - l8.toInt ≤ R70 → jJ jSgM Dy h → jSm fp_X12_guessFilled_r125 h0 h → jX m_X12_guessFilled 3 0 0 122 [(0, .ref 125), (1, .int l1), (2, .int l2), (3, .int l3), (4, .long l4), (6, .long l6), (8, .int l8), (9, .int l9)] [] h 0 0 Q := by
  intro l1 l2 l3 l4 l6 l8 l9 h y0 y1 y2 y3 y4 y5  m70 J Sm
  have el6 := jfullL l6
  refine x_iconst (v := 1) rfl ki_1 ?_
  refine x_goto (tgt := 127) rfl rfl ?_
  exact jX.sub (jsb_c rfl (jsb_c rfl (jsb_c rfl (jsb_c rfl (jsb_c rfl (jsb_c rfl (jsb_c rfl (jsb_c rfl jsb_n)))))))) (ct_X12_guessFilled_r125_300127 hD hQ k70 l1 l2 l3 l4 l6 l8 l9 h (jr_of rfl (by omega)) (jr_of rfl (by omega)) (jr_of rfl (by omega)) (jr_ofl rfl (by omega)) (jr_of rfl (by omega)) (jr_of rfl (by omega)) (by omega) J Sm)
set_option maxRecDepth 100000 in
set_option maxHeartbeats 4000000 in
theorem ct_X12_guessFilled_r125_70 {Dy : jH → Prop} {h0 : jH} {Q : Option Value → jH → Prop} (hD : jDk Dy) (hQ : ∀ (v : Int32) hx9, jJ jSgM Dy hx9 → jSm fp_X12_guessFilled_r125 h0 hx9 → Q (some (.int v)) hx9) : ∀ r : Nat, ∀ (l1 : Int32) (l2 : Int32) (l3 : Int32) (l4 : Int64) (l6 : Int64) (l8 : Int32) (h : jH), 200 - l8.toInt < (r : Int) → 0 ≤ l1.toInt ∧ l1.toInt ≤ 5 → 0 ≤ l2.toInt ∧ l2.toInt ≤ 146399 → 0 ≤ l3.toInt ∧ l3.toInt ≤ 146399 → 0 ≤ l4.toInt ∧ l4.toInt ≤ 153719 → 0 ≤ l8.toInt ∧ l8.toInt ≤ 200 → jJ jSgM Dy h → jSm fp_X12_guessFilled_r125 h0 h → jX m_X12_guessFilled 3 0 0 70 [(0, .ref 125), (1, .int l1), (2, .int l2), (3, .int l3), (4, .long l4), (6, .long l6), (8, .int l8)] [] h 0 0 Q := by
  intro r
  induction r with
  | zero =>
    intro l1 l2 l3 l4 l6 l8 h hm y0 y1 y2 y3 y4   J Sm
    exfalso
    have el6 := jfullL l6
    omega
  | succ r ih =>
    intro l1 l2 l3 l4 l6 l8 h hm y0 y1 y2 y3 y4   J Sm
    have el6 := jfullL l6
    refine x_iload (x := l8) rfl rfl ?_
    refine x_aloadn (x := 125) rfl rfl ?_
    refine z_getR (N := 92) (b := 126) 12 2 rfl f_12_8 rfl J rfl 16002 ⟨rfl, rfl⟩ rfl ?_
    refine x_iconst (v := 0) rfl ki_0 ?_
    refine z_iald (N := 50660) rfl J rfl sg_126_0_1_1_0_1 jk_0 (by omega) (fun v1 qv1 ev1 => ?_)
    refine x_icge (tgt := 185) rfl rfl (ti_ge rfl rfl ⟨fun c2 => ?_, fun c2 => ?_⟩)
    ·
      refine x_lload (x := l4) rfl rfl ?_
      refine x_lconst (v := 0) rfl kl_0 ?_
      refine z_lcmp rfl rfl jkl_0 (fun v3 ev3 => ?_)
      refine x_ifne (tgt := 196) rfl rfl (ti_ne rfl jk_0 ⟨fun c4 => ?_, fun c4 => ?_⟩)
      ·
        refine x_ldc2 (v := 2) rfl z_12_482 ?_
        refine x_lload (x := l6) rfl rfl ?_
        refine z_lmul0 rfl (fun v5 => ?_)
        have ev5 := jfullL v5
        refine x_iloadn (x := l3) rfl rfl ?_
        refine x_iloadn (x := l2) rfl rfl ?_
        refine z_isub rfl rfl rfl (by omega) (fun v6 ev6 => ?_)
        refine x_iconst (v := 1) rfl ki_1 ?_
        refine z_iadd rfl rfl jk_1 (by omega) (fun v7 ev7 => ?_)
        refine z_i2l rfl rfl (fun v8 ev8 => ?_)
        refine z_lmul0 rfl (fun v9 => ?_)
        have ev9 := jfullL v9
        refine x_lload (x := l4) rfl rfl ?_
        refine z_ladd0 rfl (fun v10 => ?_)
        have ev10 := jfullL v10
        refine x_ldc2 (v := 2) rfl z_12_482 ?_
        refine x_lload (x := l4) rfl rfl ?_
        refine z_lmul rfl jkl_2 rfl (by omega) (fun v11 ev11 => ?_)
        refine z_ldiv0 rfl rfl (by omega) (fun v12 => ?_)
        have ev12 := jfullL v12
        refine z_l2i0 rfl (fun v13 => ?_)
        exact jX.sub jsb_n (ct_X12_guessFilled_r125_220 hD hQ  v13 h J Sm)
      ·
        refine x_iconst (v := 0) rfl ki_0 ?_
        refine x_goto (tgt := 220) rfl rfl ?_
        exact jX.sub jsb_n (ct_X12_guessFilled_r125_200220 hD hQ  h J Sm)
    ·
      refine x_aloadn (x := 125) rfl rfl ?_
      refine x_iload (x := l8) rfl rfl ?_
      refine x_inv (N := m_X12_dayOf) (As := [.int l8]) (b := 125) (st := []) (dx9 := 2) (mc := 0) (ms := 0) (host := "") 12 rfl t_X12_dayOf ⟨Or.inl q_12_335, i_X12_dayOf.1, i_X12_dayOf.2⟩ ⟨by decide, rfl⟩ (congrArg Prod.fst (J.1.1 125 (12, 92) rfl)) rfl (by decide) rfl rfl ⟨by decide, by decide⟩ (jC.of rfl k_X12_dayOf rfl ?_)
      show jX m_X12_dayOf 2 0 0 0 [(0, .ref 125), (1, .int l8)] [] _ 0 0 _
      refine x_aloadn (x := 125) rfl rfl ?_
      refine z_getR (N := 92) (b := 126) 12 2 rfl f_12_8 rfl J rfl 16002 ⟨rfl, rfl⟩ rfl ?_
      refine x_aloadn (x := 125) rfl rfl ?_
      refine x_iloadn (x := l8) rfl rfl ?_
      refine x_inv (N := m_X12_at) (As := [.int l8]) (b := 125) (st := [.ref 126]) (dx9 := 1) (mc := 0) (ms := 0) (host := "") 12 rfl t_X12_at ⟨Or.inl q_12_254, i_X12_at.1, i_X12_at.2⟩ ⟨by decide, rfl⟩ (congrArg Prod.fst (J.1.1 125 (12, 92) rfl)) rfl (by decide) rfl rfl ⟨by decide, by decide⟩ (jC.of rfl k_X12_at rfl ?_)
      show jX m_X12_at 1 0 0 0 [(0, .ref 125), (1, .int l8)] [] _ 0 0 _
      refine x_bipush (v := 20) rfl kb_20 ?_
      refine x_bipush (v := 90) rfl kb_90 ?_
      refine x_iloadn (x := l8) rfl rfl ?_
      refine z_imul rfl jk_90 rfl (by omega) (fun v14 ev14 => ?_)
      refine z_iadd rfl jk_20 rfl (by omega) (fun v15 ev15 => ?_)
      refine x_iret rfl rfl ?_
      show jX m_X12_dayOf 2 0 0 9 [(0, .ref 125), (1, .int l8)] [.int v15, .ref 126] _ 0 0 _
      refine x_iconst (v := 2) rfl ki_2 ?_
      refine z_iadd rfl rfl jk_2 (by omega) (fun v16 ev16 => ?_)
      refine z_iald (N := 50660) rfl J rfl sg_126_20_18020_90_2_3 rfl (by omega) (fun v17 qv17 ev17 => ?_)
      refine x_iret rfl rfl ?_
      show jX m_X12_guessFilled 3 0 0 87 [(0, .ref 125), (1, .int l1), (2, .int l2), (3, .int l3), (4, .long l4), (6, .long l6), (8, .int l8)] [.int v17] _ 0 0 _
      refine x_istore (lsx9 := [(9, .int v17), (0, .ref 125), (1, .int l1), (2, .int l2), (3, .int l3), (4, .long l4), (6, .long l6), (8, .int l8)]) rfl rfl rfl ?_
      refine x_iload (x := v17) rfl rfl ?_
      refine z_i2l rfl rfl (fun v18 ev18 => ?_)
      refine x_iloadn (x := l2) rfl rfl ?_
      refine z_i2l rfl rfl (fun v19 ev19 => ?_)
      refine x_ldc2 (v := 3660) rfl z_12_480 ?_
      refine z_lsub rfl rfl jkl_3660 (by omega) (fun v20 ev20 => ?_)
      refine x_iloadn (x := l3) rfl rfl ?_
      refine z_i2l rfl rfl (fun v21 ev21 => ?_)
      refine x_ldc2 (v := 3660) rfl z_12_480 ?_
      refine z_ladd rfl rfl jkl_3660 (by omega) (fun v22 ev22 => ?_)
      refine x_inst (N := m_X12_in) (As := [.long v18, .long v20, .long v22]) (st := []) (dx9 := 1) (mc := 0) (ms := 0) (host := "") rfl t_X12_in ⟨Or.inl q_12_188, s_X12_in⟩ rfl (by decide) rfl rfl ⟨by decide, by decide⟩ (zc_X12_in rfl rfl rfl (fun v23 ev23 => ?_))
      show jX m_X12_guessFilled 3 0 0 107 [(9, .int v17), (0, .ref 125), (1, .int l1), (2, .int l2), (3, .int l3), (4, .long l4), (6, .long l6), (8, .int l8)] [.int v23] _ 0 0 _
      refine x_ifeq (tgt := 126) rfl rfl (ti_eq rfl jk_0 ⟨fun c24 => ?_, fun c24 => ?_⟩)
      ·
        exact jX.sub (jsb_c rfl (jsb_c rfl (jsb_c rfl (jsb_c rfl (jsb_c rfl (jsb_c rfl (jsb_c rfl (jsb_c rfl jsb_n)))))))) (ct_X12_guessFilled_r125_126 hD hQ ih l1 l2 l3 l4 l6 l8 v17 h (jr_of rfl (by omega)) (jr_of rfl (by omega)) (jr_of rfl (by omega)) (jr_ofl rfl (by omega)) (jr_of rfl (by omega)) (jr_of rfl (by omega)) (by omega) J Sm)
      ·
        refine x_iload (x := v17) rfl rfl ?_
        refine x_iloadn (x := l2) rfl rfl ?_
        refine x_iclt (tgt := 122) rfl rfl (ti_lt rfl rfl ⟨fun c25 => ?_, fun c25 => ?_⟩)
        ·
          exact jX.sub (jsb_c rfl (jsb_c rfl (jsb_c rfl (jsb_c rfl (jsb_c rfl (jsb_c rfl (jsb_c rfl (jsb_c rfl jsb_n)))))))) (ct_X12_guessFilled_r125_122 hD hQ ih l1 l2 l3 l4 l6 l8 v17 h (jr_of rfl (by omega)) (jr_of rfl (by omega)) (jr_of rfl (by omega)) (jr_ofl rfl (by omega)) (jr_of rfl (by omega)) (jr_of rfl (by omega)) (by omega) J Sm)
        ·
          refine x_iload (x := v17) rfl rfl ?_
          refine x_iloadn (x := l3) rfl rfl ?_
          refine x_icle (tgt := 126) rfl rfl (ti_le rfl rfl ⟨fun c26 => ?_, fun c26 => ?_⟩)
          ·
            exact jX.sub (jsb_c rfl (jsb_c rfl (jsb_c rfl (jsb_c rfl (jsb_c rfl (jsb_c rfl (jsb_c rfl (jsb_c rfl jsb_n)))))))) (ct_X12_guessFilled_r125_126 hD hQ ih l1 l2 l3 l4 l6 l8 v17 h (jr_of rfl (by omega)) (jr_of rfl (by omega)) (jr_of rfl (by omega)) (jr_ofl rfl (by omega)) (jr_of rfl (by omega)) (jr_of rfl (by omega)) (by omega) J Sm)
          ·
            exact jX.sub (jsb_c rfl (jsb_c rfl (jsb_c rfl (jsb_c rfl (jsb_c rfl (jsb_c rfl (jsb_c rfl (jsb_c rfl jsb_n)))))))) (ct_X12_guessFilled_r125_122 hD hQ ih l1 l2 l3 l4 l6 l8 v17 h (jr_of rfl (by omega)) (jr_of rfl (by omega)) (jr_of rfl (by omega)) (jr_ofl rfl (by omega)) (jr_of rfl (by omega)) (jr_of rfl (by omega)) (by omega) J Sm)
set_option maxRecDepth 100000 in
set_option maxHeartbeats 4000000 in
theorem ct_X12_guessFilled_r125_61 {Dy : jH → Prop} {h0 : jH} {Q : Option Value → jH → Prop} {R13 : Int} (hD : jDk Dy) (hQ : ∀ (v : Int32) hx9, jJ jSgM Dy hx9 → jSm fp_X12_guessFilled_r125 h0 hx9 → Q (some (.int v)) hx9) (k13 : ∀ (l1 : Int32) (l2 : Int32) (l3 : Int32) (l4 : Int64) (l6 : Int64) (l8 : Int32) (h : jH), 150060 - l8.toInt < R13 → 0 ≤ l1.toInt ∧ l1.toInt ≤ 5 → 0 ≤ l2.toInt ∧ l2.toInt ≤ 146399 → 0 ≤ l3.toInt ∧ l3.toInt ≤ 146399 → 0 ≤ l4.toInt ∧ l4.toInt ≤ 153719 → 0 ≤ l6.toInt ∧ l6.toInt ≤ 0 → (-3660) ≤ l8.toInt ∧ l8.toInt ≤ 150060 → l4.toInt - l8.toInt ≤ 3660 → jJ jSgM Dy h → jSm fp_X12_guessFilled_r125 h0 h → jX m_X12_guessFilled 3 0 0 13 [(0, .ref 125), (1, .int l1), (2, .int l2), (3, .int l3), (4, .long l4), (6, .long l6), (8, .int l8)] [] h 0 0 Q) : ∀ (l1 : Int32) (l2 : Int32) (l3 : Int32) (l4 : Int64) (l6 : Int64) (l8 : Int32) (h : jH), 0 ≤ l1.toInt ∧ l1.toInt ≤ 5 → 0 ≤ l2.toInt ∧ l2.toInt ≤ 146399 → 0 ≤ l3.toInt ∧ l3.toInt ≤ 146399 → 0 ≤ l4.toInt ∧ l4.toInt ≤ 153719 → 0 ≤ l6.toInt ∧ l6.toInt ≤ 0 → (-3660) ≤ l8.toInt ∧ l8.toInt ≤ 150059 → l4.toInt - l8.toInt ≤ 3661 → 150060 - l8.toInt ≤ R13 → jJ jSgM Dy h → jSm fp_X12_guessFilled_r125 h0 h → jX m_X12_guessFilled 3 0 0 61 [(0, .ref 125), (1, .int l1), (2, .int l2), (3, .int l3), (4, .long l4), (6, .long l6), (8, .int l8)] [] h 0 0 Q := by
  intro l1 l2 l3 l4 l6 l8 h y0 y1 y2 y3 y4 y5 y6  m13 J Sm
  refine z_iinc (x := l8) (lsx9 := fun v1 => [(8, .int v1), (0, .ref 125), (1, .int l1), (2, .int l2), (3, .int l3), (4, .long l4), (6, .long l6)]) rfl rfl rfl jko_1 (by omega) rfl (fun _ => rfl) (fun v1 ev1 => ?_)
  refine x_goto (tgt := 13) rfl rfl ?_
  exact jX.sub (jsb_c rfl (jsb_c rfl (jsb_c rfl (jsb_c rfl (jsb_c rfl (jsb_c rfl (jsb_c rfl jsb_n))))))) (k13 l1 l2 l3 l4 l6 v1 h (by omega) (jr_of rfl (by omega)) (jr_of rfl (by omega)) (jr_of rfl (by omega)) (jr_ofl rfl (by omega)) (jr_ofl rfl (by omega)) (jr_of rfl (by omega)) (by omega) J Sm)
set_option maxRecDepth 100000 in
set_option maxHeartbeats 4000000 in
theorem ct_X12_guessFilled_r125_43 {Dy : jH → Prop} {h0 : jH} {Q : Option Value → jH → Prop} {R13 : Int} (hD : jDk Dy) (hQ : ∀ (v : Int32) hx9, jJ jSgM Dy hx9 → jSm fp_X12_guessFilled_r125 h0 hx9 → Q (some (.int v)) hx9) (k13 : ∀ (l1 : Int32) (l2 : Int32) (l3 : Int32) (l4 : Int64) (l6 : Int64) (l8 : Int32) (h : jH), 150060 - l8.toInt < R13 → 0 ≤ l1.toInt ∧ l1.toInt ≤ 5 → 0 ≤ l2.toInt ∧ l2.toInt ≤ 146399 → 0 ≤ l3.toInt ∧ l3.toInt ≤ 146399 → 0 ≤ l4.toInt ∧ l4.toInt ≤ 153719 → 0 ≤ l6.toInt ∧ l6.toInt ≤ 0 → (-3660) ≤ l8.toInt ∧ l8.toInt ≤ 150060 → l4.toInt - l8.toInt ≤ 3660 → jJ jSgM Dy h → jSm fp_X12_guessFilled_r125 h0 h → jX m_X12_guessFilled 3 0 0 13 [(0, .ref 125), (1, .int l1), (2, .int l2), (3, .int l3), (4, .long l4), (6, .long l6), (8, .int l8)] [] h 0 0 Q) : ∀ (l1 : Int32) (l2 : Int32) (l3 : Int32) (l4 : Int64) (l6 : Int64) (l8 : Int32) (h : jH), 0 ≤ l1.toInt ∧ l1.toInt ≤ 5 → 0 ≤ l2.toInt ∧ l2.toInt ≤ 146399 → 0 ≤ l3.toInt ∧ l3.toInt ≤ 146399 → 0 ≤ l4.toInt ∧ l4.toInt ≤ 150059 → 0 ≤ l6.toInt ∧ l6.toInt ≤ 0 → 0 ≤ l8.toInt ∧ l8.toInt ≤ 146399 → l4.toInt - l8.toInt ≤ 3660 → 150060 - l8.toInt ≤ R13 → jJ jSgM Dy h → jSm fp_X12_guessFilled_r125 h0 h → jX m_X12_guessFilled 3 0 0 43 [(0, .ref 125), (1, .int l1), (2, .int l2), (3, .int l3), (4, .long l4), (6, .long l6), (8, .int l8)] [] h 0 0 Q := by
  intro l1 l2 l3 l4 l6 l8 h y0 y1 y2 y3 y4 y5 y6  m13 J Sm
  refine x_aloadn (x := 125) rfl rfl ?_
  refine x_iloadn (x := l1) rfl rfl ?_
  refine x_iload (x := l8) rfl rfl ?_
  refine x_iload (x := l8) rfl rfl ?_
  refine x_inv (N := m_X12_isTorn) (As := [.int l1, .int l8, .int l8]) (b := 125) (st := []) (dx9 := 1) (mc := 0) (ms := 0) (host := "") 12 rfl t_X12_isTorn ⟨Or.inl q_12_474, i_X12_isTorn.1, i_X12_isTorn.2⟩ ⟨by decide, rfl⟩ (congrArg Prod.fst (J.1.1 125 (12, 92) rfl)) rfl (by decide) rfl rfl ⟨by decide, by decide⟩ (sf_X12_isTorn_r125 (jr_of rfl (by omega)) (jr_of rfl (by omega)) (jr_of rfl (by omega)) hD J  (fun v2 h ev2 J S1 => ?_))
  have Sm := jSm_tr rfl Sm S1
  show jX m_X12_guessFilled 3 0 0 52 [(0, .ref 125), (1, .int l1), (2, .int l2), (3, .int l3), (4, .long l4), (6, .long l6), (8, .int l8)] [.int v2] _ 0 0 _
  refine x_ifne (tgt := 61) rfl rfl (ti_ne rfl jk_0 ⟨fun c3 => ?_, fun c3 => ?_⟩)
  ·
    exact jX.sub (jsb_c rfl (jsb_c rfl (jsb_c rfl (jsb_c rfl (jsb_c rfl (jsb_c rfl (jsb_c rfl jsb_n))))))) (ct_X12_guessFilled_r125_61 hD hQ k13 l1 l2 l3 l4 l6 l8 h (jr_of rfl (by omega)) (jr_of rfl (by omega)) (jr_of rfl (by omega)) (jr_ofl rfl (by omega)) (jr_ofl rfl (by omega)) (jr_of rfl (by omega)) (by omega) (by omega) J Sm)
  ·
    refine x_lload (x := l4) rfl rfl ?_
    refine x_lconst (v := 1) rfl kl_1 ?_
    refine z_ladd rfl rfl jkl_1 (by omega) (fun v4 ev4 => ?_)
    refine x_lstore (lsx9 := [(4, .long v4), (0, .ref 125), (1, .int l1), (2, .int l2), (3, .int l3), (6, .long l6), (8, .int l8)]) rfl rfl rfl ?_
    exact jX.sub (jsb_c rfl (jsb_c rfl (jsb_c rfl (jsb_c rfl (jsb_c rfl (jsb_c rfl (jsb_c rfl jsb_n))))))) (ct_X12_guessFilled_r125_61 hD hQ k13 l1 l2 l3 v4 l6 l8 h (jr_of rfl (by omega)) (jr_of rfl (by omega)) (jr_of rfl (by omega)) (jr_ofl rfl (by omega)) (jr_ofl rfl (by omega)) (jr_of rfl (by omega)) (by omega) (by omega) J Sm)
set_option maxRecDepth 100000 in
set_option maxHeartbeats 4000000 in
theorem ct_X12_guessFilled_r125_13 {Dy : jH → Prop} {h0 : jH} {Q : Option Value → jH → Prop} (hD : jDk Dy) (hQ : ∀ (v : Int32) hx9, jJ jSgM Dy hx9 → jSm fp_X12_guessFilled_r125 h0 hx9 → Q (some (.int v)) hx9) : ∀ r : Nat, ∀ (l1 : Int32) (l2 : Int32) (l3 : Int32) (l4 : Int64) (l6 : Int64) (l8 : Int32) (h : jH), 150060 - l8.toInt < (r : Int) → 0 ≤ l1.toInt ∧ l1.toInt ≤ 5 → 0 ≤ l2.toInt ∧ l2.toInt ≤ 146399 → 0 ≤ l3.toInt ∧ l3.toInt ≤ 146399 → 0 ≤ l4.toInt ∧ l4.toInt ≤ 153719 → 0 ≤ l6.toInt ∧ l6.toInt ≤ 0 → (-3660) ≤ l8.toInt ∧ l8.toInt ≤ 150060 → l4.toInt - l8.toInt ≤ 3660 → jJ jSgM Dy h → jSm fp_X12_guessFilled_r125 h0 h → jX m_X12_guessFilled 3 0 0 13 [(0, .ref 125), (1, .int l1), (2, .int l2), (3, .int l3), (4, .long l4), (6, .long l6), (8, .int l8)] [] h 0 0 Q := by
  intro r
  induction r with
  | zero =>
    intro l1 l2 l3 l4 l6 l8 h hm y0 y1 y2 y3 y4 y5 y6   J Sm
    exfalso
    omega
  | succ r ih =>
    intro l1 l2 l3 l4 l6 l8 h hm y0 y1 y2 y3 y4 y5 y6   J Sm
    refine x_iload (x := l8) rfl rfl ?_
    refine x_iloadn (x := l3) rfl rfl ?_
    refine x_sipush (v := 3660) rfl ks_3660 ?_
    refine z_iadd rfl rfl jk_3660 (by omega) (fun v1 ev1 => ?_)
    refine x_icgt (tgt := 67) rfl rfl (ti_gt rfl rfl ⟨fun c2 => ?_, fun c2 => ?_⟩)
    ·
      refine x_iconst (v := 0) rfl ki_0 ?_
      refine x_istore (lsx9 := [(8, .int 0), (0, .ref 125), (1, .int l1), (2, .int l2), (3, .int l3), (4, .long l4), (6, .long l6)]) rfl rfl rfl ?_
      exact jX.sub (jsb_c rfl (jsb_c rfl (jsb_c rfl (jsb_c rfl (jsb_c rfl (jsb_c rfl (jsb_c rfl jsb_n))))))) (ct_X12_guessFilled_r125_70 hD hQ  201 l1 l2 l3 l4 l6 0 h (by have := jk_0; omega) (jr_of rfl (by omega)) (jr_of rfl (by omega)) (jr_of rfl (by omega)) (jr_ofl rfl (by omega)) (jr_of jk_0 (by omega)) J Sm)
    ·
      refine x_iload (x := l8) rfl rfl ?_
      refine x_inst (N := m_X12_isDay) (As := [.int l8]) (st := []) (dx9 := 2) (mc := 0) (ms := 0) (host := "") rfl t_X12_isDay ⟨Or.inl q_12_273, s_X12_isDay⟩ rfl (by decide) rfl rfl ⟨by decide, by decide⟩ (zc_X12_isDay (d := 1) rfl (fun v3 ev3 => ?_))
      show jX m_X12_guessFilled 3 0 0 28 [(0, .ref 125), (1, .int l1), (2, .int l2), (3, .int l3), (4, .long l4), (6, .long l6), (8, .int l8)] [.int v3] _ 0 0 _
      refine x_ifeq (tgt := 61) rfl rfl (ti_eq rfl jk_0 ⟨fun c4 => ?_, fun c4 => ?_⟩)
      ·
        exact jX.sub (jsb_c rfl (jsb_c rfl (jsb_c rfl (jsb_c rfl (jsb_c rfl (jsb_c rfl (jsb_c rfl jsb_n))))))) (ct_X12_guessFilled_r125_61 hD hQ ih l1 l2 l3 l4 l6 l8 h (jr_of rfl (by omega)) (jr_of rfl (by omega)) (jr_of rfl (by omega)) (jr_ofl rfl (by omega)) (jr_ofl rfl (by omega)) (jr_of rfl (by omega)) (by omega) (by omega) J Sm)
      ·
        refine x_iload (x := l8) rfl rfl ?_
        refine x_iloadn (x := l2) rfl rfl ?_
        refine x_iclt (tgt := 43) rfl rfl (ti_lt rfl rfl ⟨fun c5 => ?_, fun c5 => ?_⟩)
        ·
          exact jX.sub (jsb_c rfl (jsb_c rfl (jsb_c rfl (jsb_c rfl (jsb_c rfl (jsb_c rfl (jsb_c rfl jsb_n))))))) (ct_X12_guessFilled_r125_43 hD hQ ih l1 l2 l3 l4 l6 l8 h (jr_of rfl (by omega)) (jr_of rfl (by omega)) (jr_of rfl (by omega)) (jr_ofl rfl (by omega)) (jr_ofl rfl (by omega)) (jr_of rfl (by omega)) (by omega) (by omega) J Sm)
        ·
          refine x_iload (x := l8) rfl rfl ?_
          refine x_iloadn (x := l3) rfl rfl ?_
          refine x_icle (tgt := 61) rfl rfl (ti_le rfl rfl ⟨fun c6 => ?_, fun c6 => ?_⟩)
          ·
            exact jX.sub (jsb_c rfl (jsb_c rfl (jsb_c rfl (jsb_c rfl (jsb_c rfl (jsb_c rfl (jsb_c rfl jsb_n))))))) (ct_X12_guessFilled_r125_61 hD hQ ih l1 l2 l3 l4 l6 l8 h (jr_of rfl (by omega)) (jr_of rfl (by omega)) (jr_of rfl (by omega)) (jr_ofl rfl (by omega)) (jr_ofl rfl (by omega)) (jr_of rfl (by omega)) (by omega) (by omega) J Sm)
          ·
            exact jX.sub (jsb_c rfl (jsb_c rfl (jsb_c rfl (jsb_c rfl (jsb_c rfl (jsb_c rfl (jsb_c rfl jsb_n))))))) (ct_X12_guessFilled_r125_43 hD hQ ih l1 l2 l3 l4 l6 l8 h (jr_of rfl (by omega)) (jr_of rfl (by omega)) (jr_of rfl (by omega)) (jr_ofl rfl (by omega)) (jr_ofl rfl (by omega)) (jr_of rfl (by omega)) (by omega) (by omega) J Sm)
set_option maxRecDepth 100000 in
set_option maxHeartbeats 4000000 in
theorem sf_X12_guessFilled_r125 {Dy : jH → Prop} {h : jH} {Q : Option Value → jH → Prop} {a1 : Int32} {a2 : Int32} {a3 : Int32} (y1 : 0 ≤ a1.toInt ∧ a1.toInt ≤ 5) (y2 : 0 ≤ a2.toInt ∧ a2.toInt ≤ 146399) (y3 : 0 ≤ a3.toInt ∧ a3.toInt ≤ 146399) (hD : jDk Dy) (J : jJ jSgM Dy h) (hQ : ∀ (v : Int32) hx9, jJ jSgM Dy hx9 → jSm fp_X12_guessFilled_r125 h hx9 → Q (some (.int v)) hx9) : jC m_X12_guessFilled 3 0 0 [.ref 125, .int a1, .int a2, .int a3] h Q := by
  refine jC.of rfl k_X12_guessFilled rfl ?_
  have Sm := jSm_rf fp_X12_guessFilled_r125 h
  show jX m_X12_guessFilled 3 0 0 0 [(0, .ref 125), (1, .int a1), (2, .int a2), (3, .int a3)] [] _ 0 0 _
  refine x_lconst (v := 0) rfl kl_0 ?_
  refine x_lstore (lsx9 := [(4, .long 0), (0, .ref 125), (1, .int a1), (2, .int a2), (3, .int a3)]) rfl rfl rfl ?_
  refine x_lconst (v := 0) rfl kl_0 ?_
  refine x_lstore (lsx9 := [(6, .long 0), (4, .long 0), (0, .ref 125), (1, .int a1), (2, .int a2), (3, .int a3)]) rfl rfl rfl ?_
  refine x_iloadn (x := a2) rfl rfl ?_
  refine x_sipush (v := 3660) rfl ks_3660 ?_
  refine z_isub rfl rfl jk_3660 (by omega) (fun v1 ev1 => ?_)
  refine x_istore (lsx9 := [(8, .int v1), (6, .long 0), (4, .long 0), (0, .ref 125), (1, .int a1), (2, .int a2), (3, .int a3)]) rfl rfl rfl ?_
  exact jX.sub (jsb_c rfl (jsb_c rfl (jsb_c rfl (jsb_c rfl (jsb_c rfl (jsb_c rfl (jsb_c rfl jsb_n))))))) (ct_X12_guessFilled_r125_13 hD hQ  153721 a1 a2 a3 0 0 v1 h (by omega) (jr_of rfl (by omega)) (jr_of rfl (by omega)) (jr_of rfl (by omega)) (jr_ofl jkl_0 (by omega)) (jr_ofl jkl_0 (by omega)) (jr_of rfl (by omega)) (by have := jkl_0; omega) J Sm)
def fp_X12_leastFilled_r125 : jFp := [(125, 32, 33), (125, 33, 34), (125, 34, 35), (125, 35, 36)]
set_option maxRecDepth 100000 in
set_option maxHeartbeats 4000000 in
theorem ct_X12_leastFilled_r125_139 {Dy : jH → Prop} {h0 : jH} {Q : Option Value → jH → Prop} (hD : jDk Dy) (hQ : ∀ (v : Int32) hx9, jJ jSgM Dy hx9 → jSm fp_X12_leastFilled_r125 h0 hx9 → Q (some (.int v)) hx9) : ∀ (l4 : Int32) (h : jH), jJ jSgM Dy h → jSm fp_X12_leastFilled_r125 h0 h → jX m_X12_leastFilled 7 0 0 139 [(4, .int l4)] [] h 0 0 Q := by
  intro l4 h    J Sm
  have el4 := jfull l4
  refine x_iload (x := l4) rfl rfl ?_
  refine x_iret rfl rfl ?_
  exact hQ _ _ J Sm
set_option maxRecDepth 100000 in
set_option maxHeartbeats 4000000 in
theorem ct_X12_leastFilled_r125_133 {Dy : jH → Prop} {h0 : jH} {Q : Option Value → jH → Prop} {R6 : Int} (hD : jDk Dy) (hQ : ∀ (v : Int32) hx9, jJ jSgM Dy hx9 → jSm fp_X12_leastFilled_r125 h0 hx9 → Q (some (.int v)) hx9) (k6 : ∀ (l1 : Int32) (l2 : Int32) (l3 : Int32) (l4 : Int32) (l5 : Int32) (h : jH), 600 - l5.toInt < R6 → 0 ≤ l1.toInt ∧ l1.toInt ≤ 5 → 0 ≤ l2.toInt ∧ l2.toInt ≤ 146399 → 0 ≤ l3.toInt ∧ l3.toInt ≤ 146399 → 0 ≤ l5.toInt ∧ l5.toInt ≤ 600 → jJ jSgM Dy h → jSm fp_X12_leastFilled_r125 h0 h → jX m_X12_leastFilled 7 0 0 6 [(0, .ref 125), (1, .int l1), (2, .int l2), (3, .int l3), (4, .int l4), (5, .int l5)] [] h 0 0 Q) : ∀ (l1 : Int32) (l2 : Int32) (l3 : Int32) (l4 : Int32) (l5 : Int32) (h : jH), 0 ≤ l1.toInt ∧ l1.toInt ≤ 3 → 0 ≤ l2.toInt ∧ l2.toInt ≤ 146399 → 0 ≤ l3.toInt ∧ l3.toInt ≤ 146399 → 0 ≤ l5.toInt ∧ l5.toInt ≤ 599 → 600 - l5.toInt ≤ R6 → jJ jSgM Dy h → jSm fp_X12_leastFilled_r125 h0 h → jX m_X12_leastFilled 7 0 0 133 [(0, .ref 125), (1, .int l1), (2, .int l2), (3, .int l3), (4, .int l4), (5, .int l5)] [] h 0 0 Q := by
  intro l1 l2 l3 l4 l5 h y0 y1 y2 y3  m6 J Sm
  have el4 := jfull l4
  refine z_iinc (x := l5) (lsx9 := fun v1 => [(5, .int v1), (0, .ref 125), (1, .int l1), (2, .int l2), (3, .int l3), (4, .int l4)]) rfl rfl rfl jko_1 (by omega) rfl (fun _ => rfl) (fun v1 ev1 => ?_)
  refine x_goto (tgt := 6) rfl rfl ?_
  exact jX.sub (jsb_c rfl (jsb_c rfl (jsb_c rfl (jsb_c rfl (jsb_c rfl (jsb_c rfl jsb_n)))))) (k6 l1 l2 l3 l4 v1 h (by omega) (jr_of rfl (by omega)) (jr_of rfl (by omega)) (jr_of rfl (by omega)) (jr_of rfl (by omega)) J Sm)
set_option maxRecDepth 100000 in
set_option maxHeartbeats 4000000 in
theorem ct_X12_leastFilled_r125_300130 {Dy : jH → Prop} {h0 : jH} {Q : Option Value → jH → Prop} {R6 : Int} (hD : jDk Dy) (hQ : ∀ (v : Int32) hx9, jJ jSgM Dy hx9 → jSm fp_X12_leastFilled_r125 h0 hx9 → Q (some (.int v)) hx9) (k6 : ∀ (l1 : Int32) (l2 : Int32) (l3 : Int32) (l4 : Int32) (l5 : Int32) (h : jH), 600 - l5.toInt < R6 → 0 ≤ l1.toInt ∧ l1.toInt ≤ 5 → 0 ≤ l2.toInt ∧ l2.toInt ≤ 146399 → 0 ≤ l3.toInt ∧ l3.toInt ≤ 146399 → 0 ≤ l5.toInt ∧ l5.toInt ≤ 600 → jJ jSgM Dy h → jSm fp_X12_leastFilled_r125 h0 h → jX m_X12_leastFilled 7 0 0 6 [(0, .ref 125), (1, .int l1), (2, .int l2), (3, .int l3), (4, .int l4), (5, .int l5)] [] h 0 0 Q) : ∀ (l1 : Int32) (l2 : Int32) (l3 : Int32) (l5 : Int32) (s1 : Int32) (h : jH), 0 ≤ l1.toInt ∧ l1.toInt ≤ 3 → 0 ≤ l2.toInt ∧ l2.toInt ≤ 146399 → 0 ≤ l3.toInt ∧ l3.toInt ≤ 146399 → 0 ≤ l5.toInt ∧ l5.toInt ≤ 599 → 600 - l5.toInt ≤ R6 → jJ jSgM Dy h → jSm fp_X12_leastFilled_r125 h0 h → jX m_X12_leastFilled 7 0 0 130 [(0, .ref 125), (1, .int l1), (2, .int l2), (3, .int l3), (5, .int l5)] [.int 1, .int s1] h 0 0 Q := by
  intro l1 l2 l3 l5 s1 h y0 y1 y2 y3  m6 J Sm
  have es1 := jfull s1
  refine z_iadd0 rfl (fun v1 => ?_)
  have ev1 := jfull v1
  refine x_istore (lsx9 := [(4, .int v1), (0, .ref 125), (1, .int l1), (2, .int l2), (3, .int l3), (5, .int l5)]) rfl rfl rfl ?_
  exact jX.sub (jsb_c rfl (jsb_c rfl (jsb_c rfl (jsb_c rfl (jsb_c rfl (jsb_c rfl jsb_n)))))) (ct_X12_leastFilled_r125_133 hD hQ k6 l1 l2 l3 v1 l5 h (jr_of rfl (by omega)) (jr_of rfl (by omega)) (jr_of rfl (by omega)) (jr_of rfl (by omega)) (by omega) J Sm)
set_option maxRecDepth 100000 in
set_option maxHeartbeats 4000000 in
theorem ct_X12_leastFilled_r125_200130 {Dy : jH → Prop} {h0 : jH} {Q : Option Value → jH → Prop} {R6 : Int} (hD : jDk Dy) (hQ : ∀ (v : Int32) hx9, jJ jSgM Dy hx9 → jSm fp_X12_leastFilled_r125 h0 hx9 → Q (some (.int v)) hx9) (k6 : ∀ (l1 : Int32) (l2 : Int32) (l3 : Int32) (l4 : Int32) (l5 : Int32) (h : jH), 600 - l5.toInt < R6 → 0 ≤ l1.toInt ∧ l1.toInt ≤ 5 → 0 ≤ l2.toInt ∧ l2.toInt ≤ 146399 → 0 ≤ l3.toInt ∧ l3.toInt ≤ 146399 → 0 ≤ l5.toInt ∧ l5.toInt ≤ 600 → jJ jSgM Dy h → jSm fp_X12_leastFilled_r125 h0 h → jX m_X12_leastFilled 7 0 0 6 [(0, .ref 125), (1, .int l1), (2, .int l2), (3, .int l3), (4, .int l4), (5, .int l5)] [] h 0 0 Q) : ∀ (l1 : Int32) (l2 : Int32) (l3 : Int32) (l5 : Int32) (s1 : Int32) (h : jH), 0 ≤ l1.toInt ∧ l1.toInt ≤ 3 → 0 ≤ l2.toInt ∧ l2.toInt ≤ 146399 → 0 ≤ l3.toInt ∧ l3.toInt ≤ 146399 → 0 ≤ l5.toInt ∧ l5.toInt ≤ 599 → 600 - l5.toInt ≤ R6 → jJ jSgM Dy h → jSm fp_X12_leastFilled_r125 h0 h → jX m_X12_leastFilled 7 0 0 130 [(0, .ref 125), (1, .int l1), (2, .int l2), (3, .int l3), (5, .int l5)] [.int 0, .int s1] h 0 0 Q := by
  intro l1 l2 l3 l5 s1 h y0 y1 y2 y3  m6 J Sm
  have es1 := jfull s1
  refine z_iadd rfl rfl jk_0 (by omega) (fun v1 ev1 => ?_)
  refine x_istore (lsx9 := [(4, .int v1), (0, .ref 125), (1, .int l1), (2, .int l2), (3, .int l3), (5, .int l5)]) rfl rfl rfl ?_
  exact jX.sub (jsb_c rfl (jsb_c rfl (jsb_c rfl (jsb_c rfl (jsb_c rfl (jsb_c rfl jsb_n)))))) (ct_X12_leastFilled_r125_133 hD hQ k6 l1 l2 l3 v1 l5 h (jr_of rfl (by omega)) (jr_of rfl (by omega)) (jr_of rfl (by omega)) (jr_of rfl (by omega)) (by omega) J Sm)
set_option maxRecDepth 100000 in
set_option maxHeartbeats 4000000 in
theorem ct_X12_leastFilled_r125_129 {Dy : jH → Prop} {h0 : jH} {Q : Option Value → jH → Prop} {R6 : Int} (hD : jDk Dy) (hQ : ∀ (v : Int32) hx9, jJ jSgM Dy hx9 → jSm fp_X12_leastFilled_r125 h0 hx9 → Q (some (.int v)) hx9) (k6 : ∀ (l1 : Int32) (l2 : Int32) (l3 : Int32) (l4 : Int32) (l5 : Int32) (h : jH), 600 - l5.toInt < R6 → 0 ≤ l1.toInt ∧ l1.toInt ≤ 5 → 0 ≤ l2.toInt ∧ l2.toInt ≤ 146399 → 0 ≤ l3.toInt ∧ l3.toInt ≤ 146399 → 0 ≤ l5.toInt ∧ l5.toInt ≤ 600 → jJ jSgM Dy h → jSm fp_X12_leastFilled_r125 h0 h → jX m_X12_leastFilled 7 0 0 6 [(0, .ref 125), (1, .int l1), (2, .int l2), (3, .int l3), (4, .int l4), (5, .int l5)] [] h 0 0 Q) : ∀ (l1 : Int32) (l2 : Int32) (l3 : Int32) (l5 : Int32) (s0 : Int32) (h : jH), 0 ≤ l1.toInt ∧ l1.toInt ≤ 3 → 0 ≤ l2.toInt ∧ l2.toInt ≤ 146399 → 0 ≤ l3.toInt ∧ l3.toInt ≤ 146399 → 0 ≤ l5.toInt ∧ l5.toInt ≤ 599 → 600 - l5.toInt ≤ R6 → jJ jSgM Dy h → jSm fp_X12_leastFilled_r125 h0 h → jX m_X12_leastFilled 7 0 0 129 [(0, .ref 125), (1, .int l1), (2, .int l2), (3, .int l3), (5, .int l5)] [.int s0] h 0 0 Q := by
  intro l1 l2 l3 l5 s0 h y0 y1 y2 y3  m6 J Sm
  have es0 := jfull s0
  refine x_iconst (v := 0) rfl ki_0 ?_
  exact jX.sub (jsb_c rfl (jsb_c rfl (jsb_c rfl (jsb_c rfl (jsb_c rfl jsb_n))))) (ct_X12_leastFilled_r125_200130 hD hQ k6 l1 l2 l3 l5 s0 h (jr_of rfl (by omega)) (jr_of rfl (by omega)) (jr_of rfl (by omega)) (jr_of rfl (by omega)) (by omega) J Sm)
set_option maxRecDepth 100000 in
set_option maxHeartbeats 4000000 in
theorem ct_X12_leastFilled_r125_102 {Dy : jH → Prop} {h0 : jH} {Q : Option Value → jH → Prop} {R6 : Int} (hD : jDk Dy) (hQ : ∀ (v : Int32) hx9, jJ jSgM Dy hx9 → jSm fp_X12_leastFilled_r125 h0 hx9 → Q (some (.int v)) hx9) (k6 : ∀ (l1 : Int32) (l2 : Int32) (l3 : Int32) (l4 : Int32) (l5 : Int32) (h : jH), 600 - l5.toInt < R6 → 0 ≤ l1.toInt ∧ l1.toInt ≤ 5 → 0 ≤ l2.toInt ∧ l2.toInt ≤ 146399 → 0 ≤ l3.toInt ∧ l3.toInt ≤ 146399 → 0 ≤ l5.toInt ∧ l5.toInt ≤ 600 → jJ jSgM Dy h → jSm fp_X12_leastFilled_r125 h0 h → jX m_X12_leastFilled 7 0 0 6 [(0, .ref 125), (1, .int l1), (2, .int l2), (3, .int l3), (4, .int l4), (5, .int l5)] [] h 0 0 Q) : ∀ (l1 : Int32) (l2 : Int32) (l3 : Int32) (l4 : Int32) (l5 : Int32) (l6 : Int32) (s0 : Int32) (h : jH), 0 ≤ l1.toInt ∧ l1.toInt ≤ 3 → 0 ≤ l2.toInt ∧ l2.toInt ≤ 146399 → 0 ≤ l3.toInt ∧ l3.toInt ≤ 146399 → 0 ≤ l5.toInt ∧ l5.toInt ≤ 599 → 0 ≤ l6.toInt ∧ l6.toInt ≤ 2147483647 → (-2147483648) ≤ s0.toInt ∧ s0.toInt ≤ 146399 → 600 - l5.toInt ≤ R6 → jJ jSgM Dy h → jSm fp_X12_leastFilled_r125 h0 h → jX m_X12_leastFilled 7 0 0 102 [(0, .ref 125), (1, .int l1), (2, .int l2), (3, .int l3), (4, .int l4), (5, .int l5), (6, .int l6)] [.int s0] h 0 0 Q := by
  intro l1 l2 l3 l4 l5 l6 s0 h y0 y1 y2 y3 y4 y5  m6 J Sm
  have el4 := jfull l4
  refine x_istore (lsx9 := [(7, .int s0), (0, .ref 125), (1, .int l1), (2, .int l2), (3, .int l3), (4, .int l4), (5, .int l5), (6, .int l6)]) rfl rfl rfl ?_
  refine x_iload (x := l4) rfl rfl ?_
  refine x_iload (x := l6) rfl rfl ?_
  refine x_iloadn (x := l2) rfl rfl ?_
  refine x_iclt (tgt := 129) rfl rfl (ti_lt rfl rfl ⟨fun c1 => ?_, fun c1 => ?_⟩)
  ·
    exact jX.sub (jsb_c rfl (jsb_c rfl (jsb_c rfl (jsb_c rfl (jsb_c rfl jsb_n))))) (ct_X12_leastFilled_r125_129 hD hQ k6 l1 l2 l3 l5 l4 h (jr_of rfl (by omega)) (jr_of rfl (by omega)) (jr_of rfl (by omega)) (jr_of rfl (by omega)) (by omega) J Sm)
  ·
    refine x_iload (x := s0) rfl rfl ?_
    refine x_iloadn (x := l3) rfl rfl ?_
    refine x_icgt (tgt := 129) rfl rfl (ti_gt rfl rfl ⟨fun c2 => ?_, fun c2 => ?_⟩)
    ·
      exact jX.sub (jsb_c rfl (jsb_c rfl (jsb_c rfl (jsb_c rfl (jsb_c rfl jsb_n))))) (ct_X12_leastFilled_r125_129 hD hQ k6 l1 l2 l3 l5 l4 h (jr_of rfl (by omega)) (jr_of rfl (by omega)) (jr_of rfl (by omega)) (jr_of rfl (by omega)) (by omega) J Sm)
    ·
      refine x_iload (x := l6) rfl rfl ?_
      refine x_iload (x := s0) rfl rfl ?_
      refine x_icgt (tgt := 129) rfl rfl (ti_gt rfl rfl ⟨fun c3 => ?_, fun c3 => ?_⟩)
      ·
        exact jX.sub (jsb_c rfl (jsb_c rfl (jsb_c rfl (jsb_c rfl (jsb_c rfl jsb_n))))) (ct_X12_leastFilled_r125_129 hD hQ k6 l1 l2 l3 l5 l4 h (jr_of rfl (by omega)) (jr_of rfl (by omega)) (jr_of rfl (by omega)) (jr_of rfl (by omega)) (by omega) J Sm)
      ·
        refine x_iconst (v := 1) rfl ki_1 ?_
        refine x_goto (tgt := 130) rfl rfl ?_
        exact jX.sub (jsb_c rfl (jsb_c rfl (jsb_c rfl (jsb_c rfl (jsb_c rfl jsb_n))))) (ct_X12_leastFilled_r125_300130 hD hQ k6 l1 l2 l3 l5 l4 h (jr_of rfl (by omega)) (jr_of rfl (by omega)) (jr_of rfl (by omega)) (jr_of rfl (by omega)) (by omega) J Sm)
set_option maxRecDepth 100000 in
set_option maxHeartbeats 4000000 in
theorem ct_X12_leastFilled_r125_85 {Dy : jH → Prop} {h0 : jH} {Q : Option Value → jH → Prop} {R6 : Int} (hD : jDk Dy) (hQ : ∀ (v : Int32) hx9, jJ jSgM Dy hx9 → jSm fp_X12_leastFilled_r125 h0 hx9 → Q (some (.int v)) hx9) (k6 : ∀ (l1 : Int32) (l2 : Int32) (l3 : Int32) (l4 : Int32) (l5 : Int32) (h : jH), 600 - l5.toInt < R6 → 0 ≤ l1.toInt ∧ l1.toInt ≤ 5 → 0 ≤ l2.toInt ∧ l2.toInt ≤ 146399 → 0 ≤ l3.toInt ∧ l3.toInt ≤ 146399 → 0 ≤ l5.toInt ∧ l5.toInt ≤ 600 → jJ jSgM Dy h → jSm fp_X12_leastFilled_r125 h0 h → jX m_X12_leastFilled 7 0 0 6 [(0, .ref 125), (1, .int l1), (2, .int l2), (3, .int l3), (4, .int l4), (5, .int l5)] [] h 0 0 Q) : ∀ (l1 : Int32) (l2 : Int32) (l3 : Int32) (l4 : Int32) (l5 : Int32) (s0 : Int32) (h : jH), 0 ≤ l1.toInt ∧ l1.toInt ≤ 3 → 0 ≤ l2.toInt ∧ l2.toInt ≤ 146399 → 0 ≤ l3.toInt ∧ l3.toInt ≤ 146399 → 0 ≤ l5.toInt ∧ l5.toInt ≤ 599 → 0 ≤ s0.toInt ∧ s0.toInt ≤ 2147483647 → 600 - l5.toInt ≤ R6 → jJ jSgM Dy h → jSm fp_X12_leastFilled_r125 h0 h → jX m_X12_leastFilled 7 0 0 85 [(0, .ref 125), (1, .int l1), (2, .int l2), (3, .int l3), (4, .int l4), (5, .int l5)] [.int s0] h 0 0 Q := by
  intro l1 l2 l3 l4 l5 s0 h y0 y1 y2 y3 y4  m6 J Sm
  have el4 := jfull l4
  refine x_istore (lsx9 := [(6, .int s0), (0, .ref 125), (1, .int l1), (2, .int l2), (3, .int l3), (4, .int l4), (5, .int l5)]) rfl rfl rfl ?_
  refine x_iloadn (x := l1) rfl rfl ?_
  refine x_ifne (tgt := 98) rfl rfl (ti_ne rfl jk_0 ⟨fun c1 => ?_, fun c1 => ?_⟩)
  ·
    refine x_aloadn (x := 125) rfl rfl ?_
    refine z_getI (N := 92) 12 35 rfl f_12_421 rfl J rfl sg_125_35_36_1_0_1 (fun v2 qv2 ev2 => ?_)
    exact jX.sub (jsb_c rfl (jsb_c rfl (jsb_c rfl (jsb_c rfl (jsb_c rfl (jsb_c rfl (jsb_c rfl jsb_n))))))) (ct_X12_leastFilled_r125_102 hD hQ k6 l1 l2 l3 l4 l5 s0 v2 h (jr_of rfl (by omega)) (jr_of rfl (by omega)) (jr_of rfl (by omega)) (jr_of rfl (by omega)) (jr_of rfl (by omega)) (jr_of rfl (by omega)) (by omega) J Sm)
  ·
    refine x_aloadn (x := 125) rfl rfl ?_
    refine z_getI (N := 92) 12 33 rfl f_12_415 rfl J rfl sg_125_33_34_1_0_1 (fun v3 qv3 ev3 => ?_)
    refine x_goto (tgt := 102) rfl rfl ?_
    exact jX.sub (jsb_c rfl (jsb_c rfl (jsb_c rfl (jsb_c rfl (jsb_c rfl (jsb_c rfl (jsb_c rfl jsb_n))))))) (ct_X12_leastFilled_r125_102 hD hQ k6 l1 l2 l3 l4 l5 s0 v3 h (jr_of rfl (by omega)) (jr_of rfl (by omega)) (jr_of rfl (by omega)) (jr_of rfl (by omega)) (jr_of rfl (by omega)) (jr_of rfl (by omega)) (by omega) J Sm)
set_option maxRecDepth 100000 in
set_option maxHeartbeats 4000000 in
theorem ct_X12_leastFilled_r125_700054 {Dy : jH → Prop} {h0 : jH} {Q : Option Value → jH → Prop} {R6 : Int} (hD : jDk Dy) (hQ : ∀ (v : Int32) hx9, jJ jSgM Dy hx9 → jSm fp_X12_leastFilled_r125 h0 hx9 → Q (some (.int v)) hx9) (k6 : ∀ (l1 : Int32) (l2 : Int32) (l3 : Int32) (l4 : Int32) (l5 : Int32) (h : jH), 600 - l5.toInt < R6 → 0 ≤ l1.toInt ∧ l1.toInt ≤ 5 → 0 ≤ l2.toInt ∧ l2.toInt ≤ 146399 → 0 ≤ l3.toInt ∧ l3.toInt ≤ 146399 → 0 ≤ l5.toInt ∧ l5.toInt ≤ 600 → jJ jSgM Dy h → jSm fp_X12_leastFilled_r125 h0 h → jX m_X12_leastFilled 7 0 0 6 [(0, .ref 125), (1, .int l1), (2, .int l2), (3, .int l3), (4, .int l4), (5, .int l5)] [] h 0 0 Q) : ∀ (l1 : Int32) (l2 : Int32) (l3 : Int32) (l4 : Int32) (l5 : Int32) (s1 : Int32) (h : jH), 1 ≤ l1.toInt ∧ l1.toInt ≤ 3 → 0 ≤ l2.toInt ∧ l2.toInt ≤ 146399 → 0 ≤ l3.toInt ∧ l3.toInt ≤ 146399 → 0 ≤ l5.toInt ∧ l5.toInt ≤ 599 → 0 ≤ s1.toInt ∧ s1.toInt ≤ 599 → l1.toInt ≠ 0 → 600 - l5.toInt ≤ R6 → jJ jSgM Dy h → jSm fp_X12_leastFilled_r125 h0 h → jX m_X12_leastFilled 7 0 0 54 [(0, .ref 125), (1, .int l1), (2, .int l2), (3, .int l3), (4, .int l4), (5, .int l5)] [.int 5, .int s1, .ref 125] h 0 0 Q := by
  intro l1 l2 l3 l4 l5 s1 h y0 y1 y2 y3 y4 y5  m6 J Sm
  have el4 := jfull l4
  refine x_ldcw (v := 146399) rfl z_12_392 ?_
  refine x_inv (N := m_X12_mentionOf) (As := [.int s1, .int 5, .int 146399]) (b := 125) (st := []) (dx9 := 4) (mc := 0) (ms := 0) (host := "") 12 rfl t_X12_mentionOf ⟨Or.inl q_12_405, i_X12_mentionOf.1, i_X12_mentionOf.2⟩ ⟨by decide, rfl⟩ (congrArg Prod.fst (J.1.1 125 (12, 92) rfl)) rfl (by decide) rfl rfl ⟨by decide, by decide⟩ (sf_X12_mentionOf_r125 (jr_of rfl (by omega)) (jr_of jk_5 (by omega)) (jr_of jk_146399 (by omega)) hD J  (fun v2 h ev2 J S1 => ?_))
  have Sm := jSm_tr rfl Sm S1
  show jX m_X12_leastFilled 7 0 0 60 [(0, .ref 125), (1, .int l1), (2, .int l2), (3, .int l3), (4, .int l4), (5, .int l5)] [.int v2] _ 0 0 _
  refine x_iconst (v := (-1)) rfl ki_m1 ?_
  refine x_icne (tgt := 133) rfl rfl (ti_ne rfl jk_m1 ⟨fun c3 => ?_, fun c3 => ?_⟩)
  ·
    exact jX.sub (jsb_c rfl (jsb_c rfl (jsb_c rfl (jsb_c rfl (jsb_c rfl (jsb_c rfl jsb_n)))))) (ct_X12_leastFilled_r125_133 hD hQ k6 l1 l2 l3 l4 l5 h (jr_of rfl (by omega)) (jr_of rfl (by omega)) (jr_of rfl (by omega)) (jr_of rfl (by omega)) (by omega) J Sm)
  ·
    refine x_aloadn (x := 125) rfl rfl ?_
    refine x_iload (x := l5) rfl rfl ?_
    refine x_inv (N := m_X12_findSpan) (As := [.int l5]) (b := 125) (st := []) (dx9 := 6) (mc := 0) (ms := 0) (host := "") 12 rfl t_X12_findSpan ⟨Or.inl q_12_437, i_X12_findSpan.1, i_X12_findSpan.2⟩ ⟨by decide, rfl⟩ (congrArg Prod.fst (J.1.1 125 (12, 92) rfl)) rfl (by decide) rfl rfl ⟨by decide, by decide⟩ (sf_X12_findSpan_r125 (jr_of rfl (by omega)) hD J  (fun h J S4 => ?_))
    have Sm := jSm_tr rfl Sm S4
    show jX m_X12_leastFilled 7 0 0 70 [(0, .ref 125), (1, .int l1), (2, .int l2), (3, .int l3), (4, .int l4), (5, .int l5)] [] _ 0 0 _
    refine x_iloadn (x := l1) rfl rfl ?_
    refine x_ifne (tgt := 81) rfl rfl (ti_ne rfl jk_0 (bn_t (by omega) ?_))
    refine x_aloadn (x := 125) rfl rfl ?_
    refine z_getI (N := 92) 12 34 rfl f_12_418 rfl J rfl sg_125_34_35_1_0_1 (fun v5 qv5 ev5 => ?_)
    exact jX.sub (jsb_c rfl (jsb_c rfl (jsb_c rfl (jsb_c rfl (jsb_c rfl (jsb_c rfl jsb_n)))))) (ct_X12_leastFilled_r125_85 hD hQ k6 l1 l2 l3 l4 l5 v5 h (jr_of rfl (by omega)) (jr_of rfl (by omega)) (jr_of rfl (by omega)) (jr_of rfl (by omega)) (jr_of rfl (by omega)) (by omega) J Sm)
set_option maxRecDepth 100000 in
set_option maxHeartbeats 4000000 in
theorem ct_X12_leastFilled_r125_200054 {Dy : jH → Prop} {h0 : jH} {Q : Option Value → jH → Prop} {R6 : Int} (hD : jDk Dy) (hQ : ∀ (v : Int32) hx9, jJ jSgM Dy hx9 → jSm fp_X12_leastFilled_r125 h0 hx9 → Q (some (.int v)) hx9) (k6 : ∀ (l1 : Int32) (l2 : Int32) (l3 : Int32) (l4 : Int32) (l5 : Int32) (h : jH), 600 - l5.toInt < R6 → 0 ≤ l1.toInt ∧ l1.toInt ≤ 5 → 0 ≤ l2.toInt ∧ l2.toInt ≤ 146399 → 0 ≤ l3.toInt ∧ l3.toInt ≤ 146399 → 0 ≤ l5.toInt ∧ l5.toInt ≤ 600 → jJ jSgM Dy h → jSm fp_X12_leastFilled_r125 h0 h → jX m_X12_leastFilled 7 0 0 6 [(0, .ref 125), (1, .int l1), (2, .int l2), (3, .int l3), (4, .int l4), (5, .int l5)] [] h 0 0 Q) : ∀ (l1 : Int32) (l2 : Int32) (l3 : Int32) (l4 : Int32) (l5 : Int32) (s1 : Int32) (h : jH), 0 ≤ l1.toInt ∧ l1.toInt ≤ 0 → 0 ≤ l2.toInt ∧ l2.toInt ≤ 146399 → 0 ≤ l3.toInt ∧ l3.toInt ≤ 146399 → 0 ≤ l5.toInt ∧ l5.toInt ≤ 599 → 0 ≤ s1.toInt ∧ s1.toInt ≤ 599 → 600 - l5.toInt ≤ R6 → jJ jSgM Dy h → jSm fp_X12_leastFilled_r125 h0 h → jX m_X12_leastFilled 7 0 0 54 [(0, .ref 125), (1, .int l1), (2, .int l2), (3, .int l3), (4, .int l4), (5, .int l5)] [.int 0, .int s1, .ref 125] h 0 0 Q := by
  intro l1 l2 l3 l4 l5 s1 h y0 y1 y2 y3 y4  m6 J Sm
  have el4 := jfull l4
  refine x_ldcw (v := 146399) rfl z_12_392 ?_
  refine x_inv (N := m_X12_mentionOf) (As := [.int s1, .int 0, .int 146399]) (b := 125) (st := []) (dx9 := 4) (mc := 0) (ms := 0) (host := "") 12 rfl t_X12_mentionOf ⟨Or.inl q_12_405, i_X12_mentionOf.1, i_X12_mentionOf.2⟩ ⟨by decide, rfl⟩ (congrArg Prod.fst (J.1.1 125 (12, 92) rfl)) rfl (by decide) rfl rfl ⟨by decide, by decide⟩ (sf_X12_mentionOf_r125 (jr_of rfl (by omega)) (jr_of jk_0 (by omega)) (jr_of jk_146399 (by omega)) hD J  (fun v2 h ev2 J S1 => ?_))
  have Sm := jSm_tr rfl Sm S1
  show jX m_X12_leastFilled 7 0 0 60 [(0, .ref 125), (1, .int l1), (2, .int l2), (3, .int l3), (4, .int l4), (5, .int l5)] [.int v2] _ 0 0 _
  refine x_iconst (v := (-1)) rfl ki_m1 ?_
  refine x_icne (tgt := 133) rfl rfl (ti_ne rfl jk_m1 ⟨fun c3 => ?_, fun c3 => ?_⟩)
  ·
    exact jX.sub (jsb_c rfl (jsb_c rfl (jsb_c rfl (jsb_c rfl (jsb_c rfl (jsb_c rfl jsb_n)))))) (ct_X12_leastFilled_r125_133 hD hQ k6 l1 l2 l3 l4 l5 h (jr_of rfl (by omega)) (jr_of rfl (by omega)) (jr_of rfl (by omega)) (jr_of rfl (by omega)) (by omega) J Sm)
  ·
    refine x_aloadn (x := 125) rfl rfl ?_
    refine x_iload (x := l5) rfl rfl ?_
    refine x_inv (N := m_X12_findSpan) (As := [.int l5]) (b := 125) (st := []) (dx9 := 6) (mc := 0) (ms := 0) (host := "") 12 rfl t_X12_findSpan ⟨Or.inl q_12_437, i_X12_findSpan.1, i_X12_findSpan.2⟩ ⟨by decide, rfl⟩ (congrArg Prod.fst (J.1.1 125 (12, 92) rfl)) rfl (by decide) rfl rfl ⟨by decide, by decide⟩ (sf_X12_findSpan_r125 (jr_of rfl (by omega)) hD J  (fun h J S4 => ?_))
    have Sm := jSm_tr rfl Sm S4
    show jX m_X12_leastFilled 7 0 0 70 [(0, .ref 125), (1, .int l1), (2, .int l2), (3, .int l3), (4, .int l4), (5, .int l5)] [] _ 0 0 _
    refine x_iloadn (x := l1) rfl rfl ?_
    refine x_ifne (tgt := 81) rfl rfl (ti_ne rfl jk_0 (bn_f (by omega) ?_))
    refine x_aloadn (x := 125) rfl rfl ?_
    refine z_getI (N := 92) 12 32 rfl f_12_412 rfl J rfl sg_125_32_33_1_0_1 (fun v5 qv5 ev5 => ?_)
    refine x_goto (tgt := 85) rfl rfl ?_
    exact jX.sub (jsb_c rfl (jsb_c rfl (jsb_c rfl (jsb_c rfl (jsb_c rfl (jsb_c rfl jsb_n)))))) (ct_X12_leastFilled_r125_85 hD hQ k6 l1 l2 l3 l4 l5 v5 h (jr_of rfl (by omega)) (jr_of rfl (by omega)) (jr_of rfl (by omega)) (jr_of rfl (by omega)) (jr_of rfl (by omega)) (by omega) J Sm)
set_option maxRecDepth 100000 in
set_option maxHeartbeats 4000000 in
theorem ct_X12_leastFilled_r125_6 {Dy : jH → Prop} {h0 : jH} {Q : Option Value → jH → Prop} (hD : jDk Dy) (hQ : ∀ (v : Int32) hx9, jJ jSgM Dy hx9 → jSm fp_X12_leastFilled_r125 h0 hx9 → Q (some (.int v)) hx9) : ∀ r : Nat, ∀ (l1 : Int32) (l2 : Int32) (l3 : Int32) (l4 : Int32) (l5 : Int32) (h : jH), 600 - l5.toInt < (r : Int) → 0 ≤ l1.toInt ∧ l1.toInt ≤ 5 → 0 ≤ l2.toInt ∧ l2.toInt ≤ 146399 → 0 ≤ l3.toInt ∧ l3.toInt ≤ 146399 → 0 ≤ l5.toInt ∧ l5.toInt ≤ 600 → jJ jSgM Dy h → jSm fp_X12_leastFilled_r125 h0 h → jX m_X12_leastFilled 7 0 0 6 [(0, .ref 125), (1, .int l1), (2, .int l2), (3, .int l3), (4, .int l4), (5, .int l5)] [] h 0 0 Q := by
  intro r
  induction r with
  | zero =>
    intro l1 l2 l3 l4 l5 h hm y0 y1 y2 y3   J Sm
    exfalso
    have el4 := jfull l4
    omega
  | succ r ih =>
    intro l1 l2 l3 l4 l5 h hm y0 y1 y2 y3   J Sm
    have el4 := jfull l4
    refine x_iload (x := l5) rfl rfl ?_
    refine x_iconst (v := 3) rfl ki_3 ?_
    refine x_aloadn (x := 125) rfl rfl ?_
    refine z_getR (N := 92) (b := 126) 12 2 rfl f_12_8 rfl J rfl 16002 ⟨rfl, rfl⟩ rfl ?_
    refine x_iconst (v := 0) rfl ki_0 ?_
    refine z_iald (N := 50660) rfl J rfl sg_126_0_1_1_0_1 jk_0 (by omega) (fun v1 qv1 ev1 => ?_)
    refine z_imul rfl jk_3 rfl (by omega) (fun v2 ev2 => ?_)
    refine x_icge (tgt := 139) rfl rfl (ti_ge rfl rfl ⟨fun c3 => ?_, fun c3 => ?_⟩)
    ·
      exact jX.sub (jsb_c rfl jsb_n) (ct_X12_leastFilled_r125_139 hD hQ  l4 h J Sm)
    ·
      refine x_iloadn (x := l1) rfl rfl ?_
      refine x_iconst (v := 2) rfl ki_2 ?_
      refine z_irem rfl rfl jk_2 (by omega) (by omega) (fun v4 ev4 => ?_)
      refine x_ifne (tgt := 139) rfl rfl (ti_ne rfl jk_0 ⟨fun c5 => ?_, fun c5 => ?_⟩)
      ·
        exact jX.sub (jsb_c rfl jsb_n) (ct_X12_leastFilled_r125_139 hD hQ  l4 h J Sm)
      ·
        refine x_iloadn (x := l1) rfl rfl ?_
        refine x_iconst (v := 4) rfl ki_4 ?_
        refine x_icge (tgt := 139) rfl rfl (ti_ge rfl jk_4 ⟨fun c6 => ?_, fun c6 => ?_⟩)
        ·
          exact jX.sub (jsb_c rfl jsb_n) (ct_X12_leastFilled_r125_139 hD hQ  l4 h J Sm)
        ·
          refine x_aloadn (x := 125) rfl rfl ?_
          refine z_getR (N := 92) (b := 139) 12 29 rfl f_12_72 rfl J rfl 16029 ⟨rfl, rfl⟩ rfl ?_
          refine x_iload (x := l5) rfl rfl ?_
          refine z_iald (N := 600) rfl J rfl sg_139_0_600_1_0_1 rfl (by omega) (fun v7 qv7 ev7 => ?_)
          refine x_iload (x := l5) rfl rfl ?_
          refine x_icne (tgt := 133) rfl rfl (ti_ne rfl rfl ⟨fun c8 => ?_, fun c8 => ?_⟩)
          ·
            exact jX.sub (jsb_c rfl (jsb_c rfl (jsb_c rfl (jsb_c rfl (jsb_c rfl (jsb_c rfl jsb_n)))))) (ct_X12_leastFilled_r125_133 hD hQ ih l1 l2 l3 l4 l5 h (jr_of rfl (by omega)) (jr_of rfl (by omega)) (jr_of rfl (by omega)) (jr_of rfl (by omega)) (by omega) J Sm)
          ·
            refine x_aloadn (x := 125) rfl rfl ?_
            refine x_iload (x := l5) rfl rfl ?_
            refine x_iloadn (x := l1) rfl rfl ?_
            refine x_ifne (tgt := 53) rfl rfl (ti_ne rfl jk_0 ⟨fun c9 => ?_, fun c9 => ?_⟩)
            ·
              refine x_iconst (v := 5) rfl ki_5 ?_
              exact jX.sub (jsb_c rfl (jsb_c rfl (jsb_c rfl (jsb_c rfl (jsb_c rfl (jsb_c rfl jsb_n)))))) (ct_X12_leastFilled_r125_700054 hD hQ ih l1 l2 l3 l4 l5 l5 h (jr_of rfl (by omega)) (jr_of rfl (by omega)) (jr_of rfl (by omega)) (jr_of rfl (by omega)) (jr_of rfl (by omega)) (by omega) (by omega) J Sm)
            ·
              refine x_iconst (v := 0) rfl ki_0 ?_
              refine x_goto (tgt := 54) rfl rfl ?_
              exact jX.sub (jsb_c rfl (jsb_c rfl (jsb_c rfl (jsb_c rfl (jsb_c rfl (jsb_c rfl jsb_n)))))) (ct_X12_leastFilled_r125_200054 hD hQ ih l1 l2 l3 l4 l5 l5 h (jr_of rfl (by omega)) (jr_of rfl (by omega)) (jr_of rfl (by omega)) (jr_of rfl (by omega)) (jr_of rfl (by omega)) (by omega) J Sm)
set_option maxRecDepth 100000 in
set_option maxHeartbeats 4000000 in
theorem sf_X12_leastFilled_r125 {Dy : jH → Prop} {h : jH} {Q : Option Value → jH → Prop} {a1 : Int32} {a2 : Int32} {a3 : Int32} (y1 : 0 ≤ a1.toInt ∧ a1.toInt ≤ 5) (y2 : 0 ≤ a2.toInt ∧ a2.toInt ≤ 146399) (y3 : 0 ≤ a3.toInt ∧ a3.toInt ≤ 146399) (hD : jDk Dy) (J : jJ jSgM Dy h) (hQ : ∀ (v : Int32) hx9, jJ jSgM Dy hx9 → jSm fp_X12_leastFilled_r125 h hx9 → Q (some (.int v)) hx9) : jC m_X12_leastFilled 7 0 0 [.ref 125, .int a1, .int a2, .int a3] h Q := by
  refine jC.of rfl k_X12_leastFilled rfl ?_
  have Sm := jSm_rf fp_X12_leastFilled_r125 h
  show jX m_X12_leastFilled 7 0 0 0 [(0, .ref 125), (1, .int a1), (2, .int a2), (3, .int a3)] [] _ 0 0 _
  refine x_iconst (v := 0) rfl ki_0 ?_
  refine x_istore (lsx9 := [(4, .int 0), (0, .ref 125), (1, .int a1), (2, .int a2), (3, .int a3)]) rfl rfl rfl ?_
  refine x_iconst (v := 0) rfl ki_0 ?_
  refine x_istore (lsx9 := [(5, .int 0), (4, .int 0), (0, .ref 125), (1, .int a1), (2, .int a2), (3, .int a3)]) rfl rfl rfl ?_
  exact jX.sub (jsb_c rfl (jsb_c rfl (jsb_c rfl (jsb_c rfl (jsb_c rfl (jsb_c rfl jsb_n)))))) (ct_X12_leastFilled_r125_6 hD hQ  601 a1 a2 a3 0 0 h (by have := jk_0; omega) (jr_of rfl (by omega)) (jr_of rfl (by omega)) (jr_of rfl (by omega)) (jr_of jk_0 (by omega)) J Sm)
def fp_X12_linesWithin_r125 : jFp := []
set_option maxRecDepth 100000 in
set_option maxHeartbeats 4000000 in
theorem ct_X12_linesWithin_r125_300064 {Dy : jH → Prop} {h0 : jH} {Q : Option Value → jH → Prop} {R6 : Int} (hD : jDk Dy) (hQ : ∀ (v : Int32) hx9, jJ jSgM Dy hx9 → jSm fp_X12_linesWithin_r125 h0 hx9 → Q (some (.int v)) hx9) (k6 : ∀ (l1 : Int32) (l2 : Int32) (l3 : Int32) (l4 : Int32) (l5 : Int32) (h : jH), 200 - l5.toInt < R6 → 0 ≤ l1.toInt ∧ l1.toInt ≤ 5 → 0 ≤ l2.toInt ∧ l2.toInt ≤ 146399 → (-146399) ≤ l3.toInt ∧ l3.toInt ≤ 292798 → 0 ≤ l5.toInt ∧ l5.toInt ≤ 200 → jJ jSgM Dy h → jSm fp_X12_linesWithin_r125 h0 h → jX m_X12_linesWithin 3 0 0 6 [(0, .ref 125), (1, .int l1), (2, .int l2), (3, .int l3), (4, .int l4), (5, .int l5)] [] h 0 0 Q) : ∀ (l1 : Int32) (l2 : Int32) (l3 : Int32) (l5 : Int32) (s1 : Int32) (h : jH), 0 ≤ l1.toInt ∧ l1.toInt ≤ 5 → 0 ≤ l2.toInt ∧ l2.toInt ≤ 146399 → 0 ≤ l3.toInt ∧ l3.toInt ≤ 292798 → 0 ≤ l5.toInt ∧ l5.toInt ≤ 199 → 200 - l5.toInt ≤ R6 → jJ jSgM Dy h → jSm fp_X12_linesWithin_r125 h0 h → jX m_X12_linesWithin 3 0 0 64 [(0, .ref 125), (1, .int l1), (2, .int l2), (3, .int l3), (5, .int l5)] [.int 1, .int s1] h 0 0 Q := by
  intro l1 l2 l3 l5 s1 h y0 y1 y2 y3  m6 J Sm
  have es1 := jfull s1
  refine z_iadd0 rfl (fun v1 => ?_)
  have ev1 := jfull v1
  refine x_istore (lsx9 := [(4, .int v1), (0, .ref 125), (1, .int l1), (2, .int l2), (3, .int l3), (5, .int l5)]) rfl rfl rfl ?_
  refine z_iinc (x := l5) (lsx9 := fun v2 => [(5, .int v2), (4, .int v1), (0, .ref 125), (1, .int l1), (2, .int l2), (3, .int l3)]) rfl rfl rfl jko_1 (by omega) rfl (fun _ => rfl) (fun v2 ev2 => ?_)
  refine x_goto (tgt := 6) rfl rfl ?_
  exact jX.sub (jsb_c rfl (jsb_c rfl (jsb_c rfl (jsb_c rfl (jsb_c rfl (jsb_c rfl jsb_n)))))) (k6 l1 l2 l3 v1 v2 h (by omega) (jr_of rfl (by omega)) (jr_of rfl (by omega)) (jr_of rfl (by omega)) (jr_of rfl (by omega)) J Sm)
set_option maxRecDepth 100000 in
set_option maxHeartbeats 4000000 in
theorem ct_X12_linesWithin_r125_200064 {Dy : jH → Prop} {h0 : jH} {Q : Option Value → jH → Prop} {R6 : Int} (hD : jDk Dy) (hQ : ∀ (v : Int32) hx9, jJ jSgM Dy hx9 → jSm fp_X12_linesWithin_r125 h0 hx9 → Q (some (.int v)) hx9) (k6 : ∀ (l1 : Int32) (l2 : Int32) (l3 : Int32) (l4 : Int32) (l5 : Int32) (h : jH), 200 - l5.toInt < R6 → 0 ≤ l1.toInt ∧ l1.toInt ≤ 5 → 0 ≤ l2.toInt ∧ l2.toInt ≤ 146399 → (-146399) ≤ l3.toInt ∧ l3.toInt ≤ 292798 → 0 ≤ l5.toInt ∧ l5.toInt ≤ 200 → jJ jSgM Dy h → jSm fp_X12_linesWithin_r125 h0 h → jX m_X12_linesWithin 3 0 0 6 [(0, .ref 125), (1, .int l1), (2, .int l2), (3, .int l3), (4, .int l4), (5, .int l5)] [] h 0 0 Q) : ∀ (l1 : Int32) (l2 : Int32) (l3 : Int32) (l5 : Int32) (s1 : Int32) (h : jH), 0 ≤ l1.toInt ∧ l1.toInt ≤ 5 → 0 ≤ l2.toInt ∧ l2.toInt ≤ 146399 → (-146399) ≤ l3.toInt ∧ l3.toInt ≤ 292798 → 0 ≤ l5.toInt ∧ l5.toInt ≤ 199 → 200 - l5.toInt ≤ R6 → jJ jSgM Dy h → jSm fp_X12_linesWithin_r125 h0 h → jX m_X12_linesWithin 3 0 0 64 [(0, .ref 125), (1, .int l1), (2, .int l2), (3, .int l3), (5, .int l5)] [.int 0, .int s1] h 0 0 Q := by
  intro l1 l2 l3 l5 s1 h y0 y1 y2 y3  m6 J Sm
  have es1 := jfull s1
  refine z_iadd rfl rfl jk_0 (by omega) (fun v1 ev1 => ?_)
  refine x_istore (lsx9 := [(4, .int v1), (0, .ref 125), (1, .int l1), (2, .int l2), (3, .int l3), (5, .int l5)]) rfl rfl rfl ?_
  refine z_iinc (x := l5) (lsx9 := fun v2 => [(5, .int v2), (4, .int v1), (0, .ref 125), (1, .int l1), (2, .int l2), (3, .int l3)]) rfl rfl rfl jko_1 (by omega) rfl (fun _ => rfl) (fun v2 ev2 => ?_)
  refine x_goto (tgt := 6) rfl rfl ?_
  exact jX.sub (jsb_c rfl (jsb_c rfl (jsb_c rfl (jsb_c rfl (jsb_c rfl (jsb_c rfl jsb_n)))))) (k6 l1 l2 l3 v1 v2 h (by omega) (jr_of rfl (by omega)) (jr_of rfl (by omega)) (jr_of rfl (by omega)) (jr_of rfl (by omega)) J Sm)
set_option maxRecDepth 100000 in
set_option maxHeartbeats 4000000 in
theorem ct_X12_linesWithin_r125_63 {Dy : jH → Prop} {h0 : jH} {Q : Option Value → jH → Prop} {R6 : Int} (hD : jDk Dy) (hQ : ∀ (v : Int32) hx9, jJ jSgM Dy hx9 → jSm fp_X12_linesWithin_r125 h0 hx9 → Q (some (.int v)) hx9) (k6 : ∀ (l1 : Int32) (l2 : Int32) (l3 : Int32) (l4 : Int32) (l5 : Int32) (h : jH), 200 - l5.toInt < R6 → 0 ≤ l1.toInt ∧ l1.toInt ≤ 5 → 0 ≤ l2.toInt ∧ l2.toInt ≤ 146399 → (-146399) ≤ l3.toInt ∧ l3.toInt ≤ 292798 → 0 ≤ l5.toInt ∧ l5.toInt ≤ 200 → jJ jSgM Dy h → jSm fp_X12_linesWithin_r125 h0 h → jX m_X12_linesWithin 3 0 0 6 [(0, .ref 125), (1, .int l1), (2, .int l2), (3, .int l3), (4, .int l4), (5, .int l5)] [] h 0 0 Q) : ∀ (l1 : Int32) (l2 : Int32) (l3 : Int32) (l5 : Int32) (s0 : Int32) (h : jH), 0 ≤ l1.toInt ∧ l1.toInt ≤ 5 → 0 ≤ l2.toInt ∧ l2.toInt ≤ 146399 → (-146399) ≤ l3.toInt ∧ l3.toInt ≤ 292798 → 0 ≤ l5.toInt ∧ l5.toInt ≤ 199 → 200 - l5.toInt ≤ R6 → jJ jSgM Dy h → jSm fp_X12_linesWithin_r125 h0 h → jX m_X12_linesWithin 3 0 0 63 [(0, .ref 125), (1, .int l1), (2, .int l2), (3, .int l3), (5, .int l5)] [.int s0] h 0 0 Q := by
  intro l1 l2 l3 l5 s0 h y0 y1 y2 y3  m6 J Sm
  have es0 := jfull s0
  refine x_iconst (v := 0) rfl ki_0 ?_
  exact jX.sub (jsb_c rfl (jsb_c rfl (jsb_c rfl (jsb_c rfl (jsb_c rfl jsb_n))))) (ct_X12_linesWithin_r125_200064 hD hQ k6 l1 l2 l3 l5 s0 h (jr_of rfl (by omega)) (jr_of rfl (by omega)) (jr_of rfl (by omega)) (jr_of rfl (by omega)) (by omega) J Sm)
set_option maxRecDepth 100000 in
set_option maxHeartbeats 4000000 in
theorem ct_X12_linesWithin_r125_6 {Dy : jH → Prop} {h0 : jH} {Q : Option Value → jH → Prop} (hD : jDk Dy) (hQ : ∀ (v : Int32) hx9, jJ jSgM Dy hx9 → jSm fp_X12_linesWithin_r125 h0 hx9 → Q (some (.int v)) hx9) : ∀ r : Nat, ∀ (l1 : Int32) (l2 : Int32) (l3 : Int32) (l4 : Int32) (l5 : Int32) (h : jH), 200 - l5.toInt < (r : Int) → 0 ≤ l1.toInt ∧ l1.toInt ≤ 5 → 0 ≤ l2.toInt ∧ l2.toInt ≤ 146399 → (-146399) ≤ l3.toInt ∧ l3.toInt ≤ 292798 → 0 ≤ l5.toInt ∧ l5.toInt ≤ 200 → jJ jSgM Dy h → jSm fp_X12_linesWithin_r125 h0 h → jX m_X12_linesWithin 3 0 0 6 [(0, .ref 125), (1, .int l1), (2, .int l2), (3, .int l3), (4, .int l4), (5, .int l5)] [] h 0 0 Q := by
  intro r
  induction r with
  | zero =>
    intro l1 l2 l3 l4 l5 h hm y0 y1 y2 y3   J Sm
    exfalso
    have el4 := jfull l4
    omega
  | succ r ih =>
    intro l1 l2 l3 l4 l5 h hm y0 y1 y2 y3   J Sm
    have el4 := jfull l4
    refine x_iload (x := l5) rfl rfl ?_
    refine x_aloadn (x := 125) rfl rfl ?_
    refine z_getR (N := 92) (b := 126) 12 2 rfl f_12_8 rfl J rfl 16002 ⟨rfl, rfl⟩ rfl ?_
    refine x_iconst (v := 0) rfl ki_0 ?_
    refine z_iald (N := 50660) rfl J rfl sg_126_0_1_1_0_1 jk_0 (by omega) (fun v1 qv1 ev1 => ?_)
    refine x_icge (tgt := 73) rfl rfl (ti_ge rfl rfl ⟨fun c2 => ?_, fun c2 => ?_⟩)
    ·
      refine x_iload (x := l4) rfl rfl ?_
      refine x_iret rfl rfl ?_
      exact hQ _ _ J Sm
    ·
      refine x_iload (x := l4) rfl rfl ?_
      refine x_aloadn (x := 125) rfl rfl ?_
      refine x_iload (x := l5) rfl rfl ?_
      refine x_inv (N := m_X12_bookOf) (As := [.int l5]) (b := 125) (st := [.int l4]) (dx9 := 2) (mc := 0) (ms := 0) (host := "") 12 rfl t_X12_bookOf ⟨Or.inl q_12_299, i_X12_bookOf.1, i_X12_bookOf.2⟩ ⟨by decide, rfl⟩ (congrArg Prod.fst (J.1.1 125 (12, 92) rfl)) rfl (by decide) rfl rfl ⟨by decide, by decide⟩ (jC.of rfl k_X12_bookOf rfl ?_)
      show jX m_X12_bookOf 2 0 0 0 [(0, .ref 125), (1, .int l5)] [] _ 0 0 _
      refine x_aloadn (x := 125) rfl rfl ?_
      refine z_getR (N := 92) (b := 126) 12 2 rfl f_12_8 rfl J rfl 16002 ⟨rfl, rfl⟩ rfl ?_
      refine x_aloadn (x := 125) rfl rfl ?_
      refine x_iloadn (x := l5) rfl rfl ?_
      refine x_inv (N := m_X12_at) (As := [.int l5]) (b := 125) (st := [.ref 126]) (dx9 := 1) (mc := 0) (ms := 0) (host := "") 12 rfl t_X12_at ⟨Or.inl q_12_254, i_X12_at.1, i_X12_at.2⟩ ⟨by decide, rfl⟩ (congrArg Prod.fst (J.1.1 125 (12, 92) rfl)) rfl (by decide) rfl rfl ⟨by decide, by decide⟩ (jC.of rfl k_X12_at rfl ?_)
      show jX m_X12_at 1 0 0 0 [(0, .ref 125), (1, .int l5)] [] _ 0 0 _
      refine x_bipush (v := 20) rfl kb_20 ?_
      refine x_bipush (v := 90) rfl kb_90 ?_
      refine x_iloadn (x := l5) rfl rfl ?_
      refine z_imul rfl jk_90 rfl (by omega) (fun v3 ev3 => ?_)
      refine z_iadd rfl jk_20 rfl (by omega) (fun v4 ev4 => ?_)
      refine x_iret rfl rfl ?_
      show jX m_X12_bookOf 2 0 0 9 [(0, .ref 125), (1, .int l5)] [.int v4, .ref 126] _ 0 0 _
      refine z_iald (N := 50660) rfl J rfl sg_126_20_18020_90_0_1 rfl (by omega) (fun v5 qv5 ev5 => ?_)
      refine x_iret rfl rfl ?_
      show jX m_X12_linesWithin 3 0 0 25 [(0, .ref 125), (1, .int l1), (2, .int l2), (3, .int l3), (4, .int l4), (5, .int l5)] [.int v5, .int l4] _ 0 0 _
      refine x_iloadn (x := l1) rfl rfl ?_
      refine x_icne (tgt := 63) rfl rfl (ti_ne rfl rfl ⟨fun c6 => ?_, fun c6 => ?_⟩)
      ·
        exact jX.sub (jsb_c rfl (jsb_c rfl (jsb_c rfl (jsb_c rfl (jsb_c rfl jsb_n))))) (ct_X12_linesWithin_r125_63 hD hQ ih l1 l2 l3 l5 l4 h (jr_of rfl (by omega)) (jr_of rfl (by omega)) (jr_of rfl (by omega)) (jr_of rfl (by omega)) (by omega) J Sm)
      ·
        refine x_aloadn (x := 125) rfl rfl ?_
        refine x_iload (x := l5) rfl rfl ?_
        refine x_aloadn (x := 125) rfl rfl ?_
        refine z_getI (N := 92) 12 28 rfl f_12_377 rfl J rfl sg_125_28_29_1_0_1 (fun v7 qv7 ev7 => ?_)
        refine x_inv (N := m_X12_isKnown) (As := [.int l5, .int v7]) (b := 125) (st := [.int l4]) (dx9 := 2) (mc := 0) (ms := 0) (host := "") 12 rfl t_X12_isKnown ⟨Or.inl q_12_383, i_X12_isKnown.1, i_X12_isKnown.2⟩ ⟨by decide, rfl⟩ (congrArg Prod.fst (J.1.1 125 (12, 92) rfl)) rfl (by decide) rfl rfl ⟨by decide, by decide⟩ (jC.of rfl k_X12_isKnown rfl ?_)
        show jX m_X12_isKnown 2 0 0 0 [(0, .ref 125), (1, .int l5), (2, .int v7)] [] _ 0 0 _
        refine x_aloadn (x := 125) rfl rfl ?_
        refine z_getR (N := 92) (b := 126) 12 2 rfl f_12_8 rfl J rfl 16002 ⟨rfl, rfl⟩ rfl ?_
        refine x_aloadn (x := 125) rfl rfl ?_
        refine x_iloadn (x := l5) rfl rfl ?_
        refine x_inv (N := m_X12_at) (As := [.int l5]) (b := 125) (st := [.ref 126]) (dx9 := 1) (mc := 0) (ms := 0) (host := "") 12 rfl t_X12_at ⟨Or.inl q_12_254, i_X12_at.1, i_X12_at.2⟩ ⟨by decide, rfl⟩ (congrArg Prod.fst (J.1.1 125 (12, 92) rfl)) rfl (by decide) rfl rfl ⟨by decide, by decide⟩ (jC.of rfl k_X12_at rfl ?_)
        show jX m_X12_at 1 0 0 0 [(0, .ref 125), (1, .int l5)] [] _ 0 0 _
        refine x_bipush (v := 20) rfl kb_20 ?_
        refine x_bipush (v := 90) rfl kb_90 ?_
        refine x_iloadn (x := l5) rfl rfl ?_
        refine z_imul rfl jk_90 rfl (by omega) (fun v8 ev8 => ?_)
        refine z_iadd rfl jk_20 rfl (by omega) (fun v9 ev9 => ?_)
        refine x_iret rfl rfl ?_
        show jX m_X12_isKnown 2 0 0 9 [(0, .ref 125), (1, .int l5), (2, .int v7)] [.int v9, .ref 126] _ 0 0 _
        refine x_iconst (v := 3) rfl ki_3 ?_
        refine z_iadd rfl rfl jk_3 (by omega) (fun v10 ev10 => ?_)
        refine z_iald (N := 50660) rfl J rfl sg_126_20_18020_90_3_4 rfl (by omega) (fun v11 qv11 ev11 => ?_)
        refine x_iloadn (x := v7) rfl rfl ?_
        refine x_icgt (tgt := 20) rfl rfl (ti_gt rfl rfl ⟨fun c12 => ?_, fun c12 => ?_⟩)
        ·
          refine x_iconst (v := 0) rfl ki_0 ?_
          refine x_zret rfl rfl (by decide) ?_
          show jX m_X12_linesWithin 3 0 0 39 [(0, .ref 125), (1, .int l1), (2, .int l2), (3, .int l3), (4, .int l4), (5, .int l5)] [.int 0, .int l4] _ 0 0 _
          refine x_ifeq (tgt := 63) rfl rfl (ti_eq jk_0 jk_0 (br_t (by omega) ?_))
          exact jX.sub (jsb_c rfl (jsb_c rfl (jsb_c rfl (jsb_c rfl (jsb_c rfl jsb_n))))) (ct_X12_linesWithin_r125_63 hD hQ ih l1 l2 l3 l5 l4 h (jr_of rfl (by omega)) (jr_of rfl (by omega)) (jr_of rfl (by omega)) (jr_of rfl (by omega)) (by omega) J Sm)
        ·
          refine x_iconst (v := 1) rfl ki_1 ?_
          refine x_goto (tgt := 21) rfl rfl ?_
          refine x_zret rfl rfl (by decide) ?_
          show jX m_X12_linesWithin 3 0 0 39 [(0, .ref 125), (1, .int l1), (2, .int l2), (3, .int l3), (4, .int l4), (5, .int l5)] [.int 1, .int l4] _ 0 0 _
          refine x_ifeq (tgt := 63) rfl rfl (ti_eq jk_1 jk_0 (br_f (by omega) ?_))
          refine x_aloadn (x := 125) rfl rfl ?_
          refine x_iload (x := l5) rfl rfl ?_
          refine x_inv (N := m_X12_dayOf) (As := [.int l5]) (b := 125) (st := [.int l4]) (dx9 := 2) (mc := 0) (ms := 0) (host := "") 12 rfl t_X12_dayOf ⟨Or.inl q_12_335, i_X12_dayOf.1, i_X12_dayOf.2⟩ ⟨by decide, rfl⟩ (congrArg Prod.fst (J.1.1 125 (12, 92) rfl)) rfl (by decide) rfl rfl ⟨by decide, by decide⟩ (jC.of rfl k_X12_dayOf rfl ?_)
          show jX m_X12_dayOf 2 0 0 0 [(0, .ref 125), (1, .int l5)] [] _ 0 0 _
          refine x_aloadn (x := 125) rfl rfl ?_
          refine z_getR (N := 92) (b := 126) 12 2 rfl f_12_8 rfl J rfl 16002 ⟨rfl, rfl⟩ rfl ?_
          refine x_aloadn (x := 125) rfl rfl ?_
          refine x_iloadn (x := l5) rfl rfl ?_
          refine x_inv (N := m_X12_at) (As := [.int l5]) (b := 125) (st := [.ref 126]) (dx9 := 1) (mc := 0) (ms := 0) (host := "") 12 rfl t_X12_at ⟨Or.inl q_12_254, i_X12_at.1, i_X12_at.2⟩ ⟨by decide, rfl⟩ (congrArg Prod.fst (J.1.1 125 (12, 92) rfl)) rfl (by decide) rfl rfl ⟨by decide, by decide⟩ (jC.of rfl k_X12_at rfl ?_)
          show jX m_X12_at 1 0 0 0 [(0, .ref 125), (1, .int l5)] [] _ 0 0 _
          refine x_bipush (v := 20) rfl kb_20 ?_
          refine x_bipush (v := 90) rfl kb_90 ?_
          refine x_iloadn (x := l5) rfl rfl ?_
          refine z_imul rfl jk_90 rfl (by omega) (fun v13 ev13 => ?_)
          refine z_iadd rfl jk_20 rfl (by omega) (fun v14 ev14 => ?_)
          refine x_iret rfl rfl ?_
          show jX m_X12_dayOf 2 0 0 9 [(0, .ref 125), (1, .int l5)] [.int v14, .ref 126] _ 0 0 _
          refine x_iconst (v := 2) rfl ki_2 ?_
          refine z_iadd rfl rfl jk_2 (by omega) (fun v15 ev15 => ?_)
          refine z_iald (N := 50660) rfl J rfl sg_126_20_18020_90_2_3 rfl (by omega) (fun v16 qv16 ev16 => ?_)
          refine x_iret rfl rfl ?_
          show jX m_X12_linesWithin 3 0 0 48 [(0, .ref 125), (1, .int l1), (2, .int l2), (3, .int l3), (4, .int l4), (5, .int l5)] [.int v16, .int l4] _ 0 0 _
          refine z_i2l rfl rfl (fun v17 ev17 => ?_)
          refine x_iloadn (x := l2) rfl rfl ?_
          refine z_i2l rfl rfl (fun v18 ev18 => ?_)
          refine x_iloadn (x := l3) rfl rfl ?_
          refine z_i2l rfl rfl (fun v19 ev19 => ?_)
          refine x_inst (N := m_X12_in) (As := [.long v17, .long v18, .long v19]) (st := [.int l4]) (dx9 := 1) (mc := 0) (ms := 0) (host := "") rfl t_X12_in ⟨Or.inl q_12_188, s_X12_in⟩ rfl (by decide) rfl rfl ⟨by decide, by decide⟩ (zc_X12_in rfl rfl rfl (fun v20 ev20 => ?_))
          show jX m_X12_linesWithin 3 0 0 56 [(0, .ref 125), (1, .int l1), (2, .int l2), (3, .int l3), (4, .int l4), (5, .int l5)] [.int v20, .int l4] _ 0 0 _
          refine x_ifeq (tgt := 63) rfl rfl (ti_eq rfl jk_0 ⟨fun c21 => ?_, fun c21 => ?_⟩)
          ·
            exact jX.sub (jsb_c rfl (jsb_c rfl (jsb_c rfl (jsb_c rfl (jsb_c rfl jsb_n))))) (ct_X12_linesWithin_r125_63 hD hQ ih l1 l2 l3 l5 l4 h (jr_of rfl (by omega)) (jr_of rfl (by omega)) (jr_of rfl (by omega)) (jr_of rfl (by omega)) (by omega) J Sm)
          ·
            refine x_iconst (v := 1) rfl ki_1 ?_
            refine x_goto (tgt := 64) rfl rfl ?_
            exact jX.sub (jsb_c rfl (jsb_c rfl (jsb_c rfl (jsb_c rfl (jsb_c rfl jsb_n))))) (ct_X12_linesWithin_r125_300064 hD hQ ih l1 l2 l3 l5 l4 h (jr_of rfl (by omega)) (jr_of rfl (by omega)) (jr_of rfl (by omega)) (jr_of rfl (by omega)) (by omega) J Sm)
set_option maxRecDepth 100000 in
set_option maxHeartbeats 4000000 in
theorem sf_X12_linesWithin_r125 {Dy : jH → Prop} {h : jH} {Q : Option Value → jH → Prop} {a1 : Int32} {a2 : Int32} {a3 : Int32} (y1 : 0 ≤ a1.toInt ∧ a1.toInt ≤ 5) (y2 : 0 ≤ a2.toInt ∧ a2.toInt ≤ 146399) (y3 : (-146399) ≤ a3.toInt ∧ a3.toInt ≤ 292798) (hD : jDk Dy) (J : jJ jSgM Dy h) (hQ : ∀ (v : Int32) hx9, jJ jSgM Dy hx9 → jSm fp_X12_linesWithin_r125 h hx9 → Q (some (.int v)) hx9) : jC m_X12_linesWithin 3 0 0 [.ref 125, .int a1, .int a2, .int a3] h Q := by
  refine jC.of rfl k_X12_linesWithin rfl ?_
  have Sm := jSm_rf fp_X12_linesWithin_r125 h
  show jX m_X12_linesWithin 3 0 0 0 [(0, .ref 125), (1, .int a1), (2, .int a2), (3, .int a3)] [] _ 0 0 _
  refine x_iconst (v := 0) rfl ki_0 ?_
  refine x_istore (lsx9 := [(4, .int 0), (0, .ref 125), (1, .int a1), (2, .int a2), (3, .int a3)]) rfl rfl rfl ?_
  refine x_iconst (v := 0) rfl ki_0 ?_
  refine x_istore (lsx9 := [(5, .int 0), (4, .int 0), (0, .ref 125), (1, .int a1), (2, .int a2), (3, .int a3)]) rfl rfl rfl ?_
  exact jX.sub (jsb_c rfl (jsb_c rfl (jsb_c rfl (jsb_c rfl (jsb_c rfl (jsb_c rfl jsb_n)))))) (ct_X12_linesWithin_r125_6 hD hQ  201 a1 a2 a3 0 0 h (by have := jk_0; omega) (jr_of rfl (by omega)) (jr_of rfl (by omega)) (jr_of rfl (by omega)) (jr_of jk_0 (by omega)) J Sm)
def fp_X12_mostFilled_r125 : jFp := []
set_option maxRecDepth 100000 in
set_option maxHeartbeats 4000000 in
theorem ct_X12_mostFilled_r125_89 {Dy : jH → Prop} {h0 : jH} {Q : Option Value → jH → Prop} {R5 : Int} (hD : jDk Dy) (hQ : ∀ (v : Int32) hx9, 0 ≤ v.toInt ∧ v.toInt ≤ 2147483647 → jJ jSgM Dy hx9 → jSm fp_X12_mostFilled_r125 h0 hx9 → Q (some (.int v)) hx9) (k5 : ∀ (l1 : Int32) (l2 : Int32) (l3 : Int32) (l4 : Int32) (h : jH), 200 - l4.toInt < R5 → 0 ≤ l1.toInt ∧ l1.toInt ≤ 5 → (-146398) ≤ l2.toInt ∧ l2.toInt ≤ 146400 → 0 ≤ l3.toInt ∧ l3.toInt ≤ 2147483647 → 0 ≤ l4.toInt ∧ l4.toInt ≤ 200 → jJ jSgM Dy h → jSm fp_X12_mostFilled_r125 h0 h → jX m_X12_mostFilled 4 0 0 5 [(0, .ref 125), (1, .int l1), (2, .int l2), (3, .int l3), (4, .int l4)] [] h 0 0 Q) : ∀ (l1 : Int32) (l2 : Int32) (l3 : Int32) (l4 : Int32) (h : jH), 0 ≤ l1.toInt ∧ l1.toInt ≤ 5 → (-146398) ≤ l2.toInt ∧ l2.toInt ≤ 146400 → 0 ≤ l3.toInt ∧ l3.toInt ≤ 2147483647 → 0 ≤ l4.toInt ∧ l4.toInt ≤ 199 → 200 - l4.toInt ≤ R5 → jJ jSgM Dy h → jSm fp_X12_mostFilled_r125 h0 h → jX m_X12_mostFilled 4 0 0 89 [(0, .ref 125), (1, .int l1), (2, .int l2), (3, .int l3), (4, .int l4)] [] h 0 0 Q := by
  intro l1 l2 l3 l4 h y0 y1 y2 y3  m5 J Sm
  refine z_iinc (x := l4) (lsx9 := fun v1 => [(4, .int v1), (0, .ref 125), (1, .int l1), (2, .int l2), (3, .int l3)]) rfl rfl rfl jko_1 (by omega) rfl (fun _ => rfl) (fun v1 ev1 => ?_)
  refine x_goto (tgt := 5) rfl rfl ?_
  exact jX.sub (jsb_c rfl (jsb_c rfl (jsb_c rfl (jsb_c rfl (jsb_c rfl jsb_n))))) (k5 l1 l2 l3 v1 h (by omega) (jr_of rfl (by omega)) (jr_of rfl (by omega)) (jr_of rfl (by omega)) (jr_of rfl (by omega)) J Sm)
set_option maxRecDepth 100000 in
set_option maxHeartbeats 4000000 in
theorem ct_X12_mostFilled_r125_5 {Dy : jH → Prop} {h0 : jH} {Q : Option Value → jH → Prop} (hD : jDk Dy) (hQ : ∀ (v : Int32) hx9, 0 ≤ v.toInt ∧ v.toInt ≤ 2147483647 → jJ jSgM Dy hx9 → jSm fp_X12_mostFilled_r125 h0 hx9 → Q (some (.int v)) hx9) : ∀ r : Nat, ∀ (l1 : Int32) (l2 : Int32) (l3 : Int32) (l4 : Int32) (h : jH), 200 - l4.toInt < (r : Int) → 0 ≤ l1.toInt ∧ l1.toInt ≤ 5 → (-146398) ≤ l2.toInt ∧ l2.toInt ≤ 146400 → 0 ≤ l3.toInt ∧ l3.toInt ≤ 2147483647 → 0 ≤ l4.toInt ∧ l4.toInt ≤ 200 → jJ jSgM Dy h → jSm fp_X12_mostFilled_r125 h0 h → jX m_X12_mostFilled 4 0 0 5 [(0, .ref 125), (1, .int l1), (2, .int l2), (3, .int l3), (4, .int l4)] [] h 0 0 Q := by
  intro r
  induction r with
  | zero =>
    intro l1 l2 l3 l4 h hm y0 y1 y2 y3   J Sm
    exfalso
    omega
  | succ r ih =>
    intro l1 l2 l3 l4 h hm y0 y1 y2 y3   J Sm
    refine x_iload (x := l4) rfl rfl ?_
    refine x_aloadn (x := 125) rfl rfl ?_
    refine z_getR (N := 92) (b := 126) 12 2 rfl f_12_8 rfl J rfl 16002 ⟨rfl, rfl⟩ rfl ?_
    refine x_iconst (v := 0) rfl ki_0 ?_
    refine z_iald (N := 50660) rfl J rfl sg_126_0_1_1_0_1 jk_0 (by omega) (fun v1 qv1 ev1 => ?_)
    refine x_icge (tgt := 95) rfl rfl (ti_ge rfl rfl ⟨fun c2 => ?_, fun c2 => ?_⟩)
    ·
      refine x_iloadn (x := l3) rfl rfl ?_
      refine x_iret rfl rfl ?_
      exact hQ _ _ (jr_of rfl (by omega)) J Sm
    ·
      refine x_aloadn (x := 125) rfl rfl ?_
      refine x_iload (x := l4) rfl rfl ?_
      refine x_inv (N := m_X12_bookOf) (As := [.int l4]) (b := 125) (st := []) (dx9 := 3) (mc := 0) (ms := 0) (host := "") 12 rfl t_X12_bookOf ⟨Or.inl q_12_299, i_X12_bookOf.1, i_X12_bookOf.2⟩ ⟨by decide, rfl⟩ (congrArg Prod.fst (J.1.1 125 (12, 92) rfl)) rfl (by decide) rfl rfl ⟨by decide, by decide⟩ (jC.of rfl k_X12_bookOf rfl ?_)
      show jX m_X12_bookOf 3 0 0 0 [(0, .ref 125), (1, .int l4)] [] _ 0 0 _
      refine x_aloadn (x := 125) rfl rfl ?_
      refine z_getR (N := 92) (b := 126) 12 2 rfl f_12_8 rfl J rfl 16002 ⟨rfl, rfl⟩ rfl ?_
      refine x_aloadn (x := 125) rfl rfl ?_
      refine x_iloadn (x := l4) rfl rfl ?_
      refine x_inv (N := m_X12_at) (As := [.int l4]) (b := 125) (st := [.ref 126]) (dx9 := 2) (mc := 0) (ms := 0) (host := "") 12 rfl t_X12_at ⟨Or.inl q_12_254, i_X12_at.1, i_X12_at.2⟩ ⟨by decide, rfl⟩ (congrArg Prod.fst (J.1.1 125 (12, 92) rfl)) rfl (by decide) rfl rfl ⟨by decide, by decide⟩ (jC.of rfl k_X12_at rfl ?_)
      show jX m_X12_at 2 0 0 0 [(0, .ref 125), (1, .int l4)] [] _ 0 0 _
      refine x_bipush (v := 20) rfl kb_20 ?_
      refine x_bipush (v := 90) rfl kb_90 ?_
      refine x_iloadn (x := l4) rfl rfl ?_
      refine z_imul rfl jk_90 rfl (by omega) (fun v3 ev3 => ?_)
      refine z_iadd rfl jk_20 rfl (by omega) (fun v4 ev4 => ?_)
      refine x_iret rfl rfl ?_
      show jX m_X12_bookOf 3 0 0 9 [(0, .ref 125), (1, .int l4)] [.int v4, .ref 126] _ 0 0 _
      refine z_iald (N := 50660) rfl J rfl sg_126_20_18020_90_0_1 rfl (by omega) (fun v5 qv5 ev5 => ?_)
      refine x_iret rfl rfl ?_
      show jX m_X12_mostFilled 4 0 0 22 [(0, .ref 125), (1, .int l1), (2, .int l2), (3, .int l3), (4, .int l4)] [.int v5] _ 0 0 _
      refine x_iloadn (x := l1) rfl rfl ?_
      refine x_icne (tgt := 89) rfl rfl (ti_ne rfl rfl ⟨fun c6 => ?_, fun c6 => ?_⟩)
      ·
        exact jX.sub (jsb_c rfl (jsb_c rfl (jsb_c rfl (jsb_c rfl (jsb_c rfl jsb_n))))) (ct_X12_mostFilled_r125_89 hD hQ ih l1 l2 l3 l4 h (jr_of rfl (by omega)) (jr_of rfl (by omega)) (jr_of rfl (by omega)) (jr_of rfl (by omega)) (by omega) J Sm)
      ·
        refine x_aloadn (x := 125) rfl rfl ?_
        refine x_iload (x := l4) rfl rfl ?_
        refine x_aloadn (x := 125) rfl rfl ?_
        refine z_getI (N := 92) 12 28 rfl f_12_377 rfl J rfl sg_125_28_29_1_0_1 (fun v7 qv7 ev7 => ?_)
        refine x_inv (N := m_X12_isKnown) (As := [.int l4, .int v7]) (b := 125) (st := []) (dx9 := 3) (mc := 0) (ms := 0) (host := "") 12 rfl t_X12_isKnown ⟨Or.inl q_12_383, i_X12_isKnown.1, i_X12_isKnown.2⟩ ⟨by decide, rfl⟩ (congrArg Prod.fst (J.1.1 125 (12, 92) rfl)) rfl (by decide) rfl rfl ⟨by decide, by decide⟩ (jC.of rfl k_X12_isKnown rfl ?_)
        show jX m_X12_isKnown 3 0 0 0 [(0, .ref 125), (1, .int l4), (2, .int v7)] [] _ 0 0 _
        refine x_aloadn (x := 125) rfl rfl ?_
        refine z_getR (N := 92) (b := 126) 12 2 rfl f_12_8 rfl J rfl 16002 ⟨rfl, rfl⟩ rfl ?_
        refine x_aloadn (x := 125) rfl rfl ?_
        refine x_iloadn (x := l4) rfl rfl ?_
        refine x_inv (N := m_X12_at) (As := [.int l4]) (b := 125) (st := [.ref 126]) (dx9 := 2) (mc := 0) (ms := 0) (host := "") 12 rfl t_X12_at ⟨Or.inl q_12_254, i_X12_at.1, i_X12_at.2⟩ ⟨by decide, rfl⟩ (congrArg Prod.fst (J.1.1 125 (12, 92) rfl)) rfl (by decide) rfl rfl ⟨by decide, by decide⟩ (jC.of rfl k_X12_at rfl ?_)
        show jX m_X12_at 2 0 0 0 [(0, .ref 125), (1, .int l4)] [] _ 0 0 _
        refine x_bipush (v := 20) rfl kb_20 ?_
        refine x_bipush (v := 90) rfl kb_90 ?_
        refine x_iloadn (x := l4) rfl rfl ?_
        refine z_imul rfl jk_90 rfl (by omega) (fun v8 ev8 => ?_)
        refine z_iadd rfl jk_20 rfl (by omega) (fun v9 ev9 => ?_)
        refine x_iret rfl rfl ?_
        show jX m_X12_isKnown 3 0 0 9 [(0, .ref 125), (1, .int l4), (2, .int v7)] [.int v9, .ref 126] _ 0 0 _
        refine x_iconst (v := 3) rfl ki_3 ?_
        refine z_iadd rfl rfl jk_3 (by omega) (fun v10 ev10 => ?_)
        refine z_iald (N := 50660) rfl J rfl sg_126_20_18020_90_3_4 rfl (by omega) (fun v11 qv11 ev11 => ?_)
        refine x_iloadn (x := v7) rfl rfl ?_
        refine x_icgt (tgt := 20) rfl rfl (ti_gt rfl rfl ⟨fun c12 => ?_, fun c12 => ?_⟩)
        ·
          refine x_iconst (v := 0) rfl ki_0 ?_
          refine x_zret rfl rfl (by decide) ?_
          show jX m_X12_mostFilled 4 0 0 36 [(0, .ref 125), (1, .int l1), (2, .int l2), (3, .int l3), (4, .int l4)] [.int 0] _ 0 0 _
          refine x_ifeq (tgt := 89) rfl rfl (ti_eq jk_0 jk_0 (br_t (by omega) ?_))
          exact jX.sub (jsb_c rfl (jsb_c rfl (jsb_c rfl (jsb_c rfl (jsb_c rfl jsb_n))))) (ct_X12_mostFilled_r125_89 hD hQ ih l1 l2 l3 l4 h (jr_of rfl (by omega)) (jr_of rfl (by omega)) (jr_of rfl (by omega)) (jr_of rfl (by omega)) (by omega) J Sm)
        ·
          refine x_iconst (v := 1) rfl ki_1 ?_
          refine x_goto (tgt := 21) rfl rfl ?_
          refine x_zret rfl rfl (by decide) ?_
          show jX m_X12_mostFilled 4 0 0 36 [(0, .ref 125), (1, .int l1), (2, .int l2), (3, .int l3), (4, .int l4)] [.int 1] _ 0 0 _
          refine x_ifeq (tgt := 89) rfl rfl (ti_eq jk_1 jk_0 (br_f (by omega) ?_))
          refine x_aloadn (x := 125) rfl rfl ?_
          refine x_iloadn (x := l1) rfl rfl ?_
          refine x_aloadn (x := 125) rfl rfl ?_
          refine x_iload (x := l4) rfl rfl ?_
          refine x_inv (N := m_X12_dayOf) (As := [.int l4]) (b := 125) (st := [.int l1, .ref 125]) (dx9 := 3) (mc := 0) (ms := 0) (host := "") 12 rfl t_X12_dayOf ⟨Or.inl q_12_335, i_X12_dayOf.1, i_X12_dayOf.2⟩ ⟨by decide, rfl⟩ (congrArg Prod.fst (J.1.1 125 (12, 92) rfl)) rfl (by decide) rfl rfl ⟨by decide, by decide⟩ (jC.of rfl k_X12_dayOf rfl ?_)
          show jX m_X12_dayOf 3 0 0 0 [(0, .ref 125), (1, .int l4)] [] _ 0 0 _
          refine x_aloadn (x := 125) rfl rfl ?_
          refine z_getR (N := 92) (b := 126) 12 2 rfl f_12_8 rfl J rfl 16002 ⟨rfl, rfl⟩ rfl ?_
          refine x_aloadn (x := 125) rfl rfl ?_
          refine x_iloadn (x := l4) rfl rfl ?_
          refine x_inv (N := m_X12_at) (As := [.int l4]) (b := 125) (st := [.ref 126]) (dx9 := 2) (mc := 0) (ms := 0) (host := "") 12 rfl t_X12_at ⟨Or.inl q_12_254, i_X12_at.1, i_X12_at.2⟩ ⟨by decide, rfl⟩ (congrArg Prod.fst (J.1.1 125 (12, 92) rfl)) rfl (by decide) rfl rfl ⟨by decide, by decide⟩ (jC.of rfl k_X12_at rfl ?_)
          show jX m_X12_at 2 0 0 0 [(0, .ref 125), (1, .int l4)] [] _ 0 0 _
          refine x_bipush (v := 20) rfl kb_20 ?_
          refine x_bipush (v := 90) rfl kb_90 ?_
          refine x_iloadn (x := l4) rfl rfl ?_
          refine z_imul rfl jk_90 rfl (by omega) (fun v13 ev13 => ?_)
          refine z_iadd rfl jk_20 rfl (by omega) (fun v14 ev14 => ?_)
          refine x_iret rfl rfl ?_
          show jX m_X12_dayOf 3 0 0 9 [(0, .ref 125), (1, .int l4)] [.int v14, .ref 126] _ 0 0 _
          refine x_iconst (v := 2) rfl ki_2 ?_
          refine z_iadd rfl rfl jk_2 (by omega) (fun v15 ev15 => ?_)
          refine z_iald (N := 50660) rfl J rfl sg_126_20_18020_90_2_3 rfl (by omega) (fun v16 qv16 ev16 => ?_)
          refine x_iret rfl rfl ?_
          show jX m_X12_mostFilled 4 0 0 47 [(0, .ref 125), (1, .int l1), (2, .int l2), (3, .int l3), (4, .int l4)] [.int v16, .int l1, .ref 125] _ 0 0 _
          refine x_aloadn (x := 125) rfl rfl ?_
          refine x_iload (x := l4) rfl rfl ?_
          refine x_inv (N := m_X12_dayOf) (As := [.int l4]) (b := 125) (st := [.int v16, .int l1, .ref 125]) (dx9 := 3) (mc := 0) (ms := 0) (host := "") 12 rfl t_X12_dayOf ⟨Or.inl q_12_335, i_X12_dayOf.1, i_X12_dayOf.2⟩ ⟨by decide, rfl⟩ (congrArg Prod.fst (J.1.1 125 (12, 92) rfl)) rfl (by decide) rfl rfl ⟨by decide, by decide⟩ (jC.of rfl k_X12_dayOf rfl ?_)
          show jX m_X12_dayOf 3 0 0 0 [(0, .ref 125), (1, .int l4)] [] _ 0 0 _
          refine x_aloadn (x := 125) rfl rfl ?_
          refine z_getR (N := 92) (b := 126) 12 2 rfl f_12_8 rfl J rfl 16002 ⟨rfl, rfl⟩ rfl ?_
          refine x_aloadn (x := 125) rfl rfl ?_
          refine x_iloadn (x := l4) rfl rfl ?_
          refine x_inv (N := m_X12_at) (As := [.int l4]) (b := 125) (st := [.ref 126]) (dx9 := 2) (mc := 0) (ms := 0) (host := "") 12 rfl t_X12_at ⟨Or.inl q_12_254, i_X12_at.1, i_X12_at.2⟩ ⟨by decide, rfl⟩ (congrArg Prod.fst (J.1.1 125 (12, 92) rfl)) rfl (by decide) rfl rfl ⟨by decide, by decide⟩ (jC.of rfl k_X12_at rfl ?_)
          show jX m_X12_at 2 0 0 0 [(0, .ref 125), (1, .int l4)] [] _ 0 0 _
          refine x_bipush (v := 20) rfl kb_20 ?_
          refine x_bipush (v := 90) rfl kb_90 ?_
          refine x_iloadn (x := l4) rfl rfl ?_
          refine z_imul rfl jk_90 rfl (by omega) (fun v17 ev17 => ?_)
          refine z_iadd rfl jk_20 rfl (by omega) (fun v18 ev18 => ?_)
          refine x_iret rfl rfl ?_
          show jX m_X12_dayOf 3 0 0 9 [(0, .ref 125), (1, .int l4)] [.int v18, .ref 126] _ 0 0 _
          refine x_iconst (v := 2) rfl ki_2 ?_
          refine z_iadd rfl rfl jk_2 (by omega) (fun v19 ev19 => ?_)
          refine z_iald (N := 50660) rfl J rfl sg_126_20_18020_90_2_3 rfl (by omega) (fun v20 qv20 ev20 => ?_)
          refine x_iret rfl rfl ?_
          show jX m_X12_mostFilled 4 0 0 53 [(0, .ref 125), (1, .int l1), (2, .int l2), (3, .int l3), (4, .int l4)] [.int v20, .int v16, .int l1, .ref 125] _ 0 0 _
          refine x_iloadn (x := l2) rfl rfl ?_
          refine z_iadd rfl rfl rfl (by omega) (fun v21 ev21 => ?_)
          refine x_iconst (v := 1) rfl ki_1 ?_
          refine z_isub rfl rfl jk_1 (by omega) (fun v22 ev22 => ?_)
          refine x_inv (N := m_X12_isTorn) (As := [.int l1, .int v16, .int v22]) (b := 125) (st := []) (dx9 := 1) (mc := 0) (ms := 0) (host := "") 12 rfl t_X12_isTorn ⟨Or.inl q_12_474, i_X12_isTorn.1, i_X12_isTorn.2⟩ ⟨by decide, rfl⟩ (congrArg Prod.fst (J.1.1 125 (12, 92) rfl)) rfl (by decide) rfl rfl ⟨by decide, by decide⟩ (sf_X12_isTorn_r125 (jr_of rfl (by omega)) (jr_of rfl (by omega)) (jr_of rfl (by omega)) hD J  (fun v24 h ev24 J S23 => ?_))
          have Sm := jSm_tr rfl Sm S23
          show jX m_X12_mostFilled 4 0 0 60 [(0, .ref 125), (1, .int l1), (2, .int l2), (3, .int l3), (4, .int l4)] [.int v24] _ 0 0 _
          refine x_ifne (tgt := 89) rfl rfl (ti_ne rfl jk_0 ⟨fun c25 => ?_, fun c25 => ?_⟩)
          ·
            exact jX.sub (jsb_c rfl (jsb_c rfl (jsb_c rfl (jsb_c rfl (jsb_c rfl jsb_n))))) (ct_X12_mostFilled_r125_89 hD hQ ih l1 l2 l3 l4 h (jr_of rfl (by omega)) (jr_of rfl (by omega)) (jr_of rfl (by omega)) (jr_of rfl (by omega)) (by omega) J Sm)
          ·
            refine x_iloadn (x := l3) rfl rfl ?_
            refine x_aloadn (x := 125) rfl rfl ?_
            refine x_iloadn (x := l1) rfl rfl ?_
            refine x_aloadn (x := 125) rfl rfl ?_
            refine x_iload (x := l4) rfl rfl ?_
            refine x_inv (N := m_X12_dayOf) (As := [.int l4]) (b := 125) (st := [.int l1, .ref 125, .int l3]) (dx9 := 3) (mc := 0) (ms := 0) (host := "") 12 rfl t_X12_dayOf ⟨Or.inl q_12_335, i_X12_dayOf.1, i_X12_dayOf.2⟩ ⟨by decide, rfl⟩ (congrArg Prod.fst (J.1.1 125 (12, 92) rfl)) rfl (by decide) rfl rfl ⟨by decide, by decide⟩ (jC.of rfl k_X12_dayOf rfl ?_)
            show jX m_X12_dayOf 3 0 0 0 [(0, .ref 125), (1, .int l4)] [] _ 0 0 _
            refine x_aloadn (x := 125) rfl rfl ?_
            refine z_getR (N := 92) (b := 126) 12 2 rfl f_12_8 rfl J rfl 16002 ⟨rfl, rfl⟩ rfl ?_
            refine x_aloadn (x := 125) rfl rfl ?_
            refine x_iloadn (x := l4) rfl rfl ?_
            refine x_inv (N := m_X12_at) (As := [.int l4]) (b := 125) (st := [.ref 126]) (dx9 := 2) (mc := 0) (ms := 0) (host := "") 12 rfl t_X12_at ⟨Or.inl q_12_254, i_X12_at.1, i_X12_at.2⟩ ⟨by decide, rfl⟩ (congrArg Prod.fst (J.1.1 125 (12, 92) rfl)) rfl (by decide) rfl rfl ⟨by decide, by decide⟩ (jC.of rfl k_X12_at rfl ?_)
            show jX m_X12_at 2 0 0 0 [(0, .ref 125), (1, .int l4)] [] _ 0 0 _
            refine x_bipush (v := 20) rfl kb_20 ?_
            refine x_bipush (v := 90) rfl kb_90 ?_
            refine x_iloadn (x := l4) rfl rfl ?_
            refine z_imul rfl jk_90 rfl (by omega) (fun v26 ev26 => ?_)
            refine z_iadd rfl jk_20 rfl (by omega) (fun v27 ev27 => ?_)
            refine x_iret rfl rfl ?_
            show jX m_X12_dayOf 3 0 0 9 [(0, .ref 125), (1, .int l4)] [.int v27, .ref 126] _ 0 0 _
            refine x_iconst (v := 2) rfl ki_2 ?_
            refine z_iadd rfl rfl jk_2 (by omega) (fun v28 ev28 => ?_)
            refine z_iald (N := 50660) rfl J rfl sg_126_20_18020_90_2_3 rfl (by omega) (fun v29 qv29 ev29 => ?_)
            refine x_iret rfl rfl ?_
            show jX m_X12_mostFilled 4 0 0 72 [(0, .ref 125), (1, .int l1), (2, .int l2), (3, .int l3), (4, .int l4)] [.int v29, .int l1, .ref 125, .int l3] _ 0 0 _
            refine x_aloadn (x := 125) rfl rfl ?_
            refine x_iload (x := l4) rfl rfl ?_
            refine x_inv (N := m_X12_dayOf) (As := [.int l4]) (b := 125) (st := [.int v29, .int l1, .ref 125, .int l3]) (dx9 := 3) (mc := 0) (ms := 0) (host := "") 12 rfl t_X12_dayOf ⟨Or.inl q_12_335, i_X12_dayOf.1, i_X12_dayOf.2⟩ ⟨by decide, rfl⟩ (congrArg Prod.fst (J.1.1 125 (12, 92) rfl)) rfl (by decide) rfl rfl ⟨by decide, by decide⟩ (jC.of rfl k_X12_dayOf rfl ?_)
            show jX m_X12_dayOf 3 0 0 0 [(0, .ref 125), (1, .int l4)] [] _ 0 0 _
            refine x_aloadn (x := 125) rfl rfl ?_
            refine z_getR (N := 92) (b := 126) 12 2 rfl f_12_8 rfl J rfl 16002 ⟨rfl, rfl⟩ rfl ?_
            refine x_aloadn (x := 125) rfl rfl ?_
            refine x_iloadn (x := l4) rfl rfl ?_
            refine x_inv (N := m_X12_at) (As := [.int l4]) (b := 125) (st := [.ref 126]) (dx9 := 2) (mc := 0) (ms := 0) (host := "") 12 rfl t_X12_at ⟨Or.inl q_12_254, i_X12_at.1, i_X12_at.2⟩ ⟨by decide, rfl⟩ (congrArg Prod.fst (J.1.1 125 (12, 92) rfl)) rfl (by decide) rfl rfl ⟨by decide, by decide⟩ (jC.of rfl k_X12_at rfl ?_)
            show jX m_X12_at 2 0 0 0 [(0, .ref 125), (1, .int l4)] [] _ 0 0 _
            refine x_bipush (v := 20) rfl kb_20 ?_
            refine x_bipush (v := 90) rfl kb_90 ?_
            refine x_iloadn (x := l4) rfl rfl ?_
            refine z_imul rfl jk_90 rfl (by omega) (fun v30 ev30 => ?_)
            refine z_iadd rfl jk_20 rfl (by omega) (fun v31 ev31 => ?_)
            refine x_iret rfl rfl ?_
            show jX m_X12_dayOf 3 0 0 9 [(0, .ref 125), (1, .int l4)] [.int v31, .ref 126] _ 0 0 _
            refine x_iconst (v := 2) rfl ki_2 ?_
            refine z_iadd rfl rfl jk_2 (by omega) (fun v32 ev32 => ?_)
            refine z_iald (N := 50660) rfl J rfl sg_126_20_18020_90_2_3 rfl (by omega) (fun v33 qv33 ev33 => ?_)
            refine x_iret rfl rfl ?_
            show jX m_X12_mostFilled 4 0 0 78 [(0, .ref 125), (1, .int l1), (2, .int l2), (3, .int l3), (4, .int l4)] [.int v33, .int v29, .int l1, .ref 125, .int l3] _ 0 0 _
            refine x_iloadn (x := l2) rfl rfl ?_
            refine z_iadd rfl rfl rfl (by omega) (fun v34 ev34 => ?_)
            refine x_iconst (v := 1) rfl ki_1 ?_
            refine z_isub rfl rfl jk_1 (by omega) (fun v35 ev35 => ?_)
            refine x_inv (N := m_X12_linesWithin) (As := [.int l1, .int v29, .int v35]) (b := 125) (st := [.int l3]) (dx9 := 3) (mc := 0) (ms := 0) (host := "") 12 rfl t_X12_linesWithin ⟨Or.inl q_12_477, i_X12_linesWithin.1, i_X12_linesWithin.2⟩ ⟨by decide, rfl⟩ (congrArg Prod.fst (J.1.1 125 (12, 92) rfl)) rfl (by decide) rfl rfl ⟨by decide, by decide⟩ (sf_X12_linesWithin_r125 (jr_of rfl (by omega)) (jr_of rfl (by omega)) (jr_of rfl (by omega)) hD J  (fun v37 h J S36 => ?_))
            have ev37 := jfull v37
            have Sm := jSm_tr rfl Sm S36
            show jX m_X12_mostFilled 4 0 0 85 [(0, .ref 125), (1, .int l1), (2, .int l2), (3, .int l3), (4, .int l4)] [.int v37, .int l3] _ 0 0 _
            refine x_inst (N := m_X12_more) (As := [.int l3, .int v37]) (st := []) (dx9 := 3) (mc := 0) (ms := 0) (host := "") rfl t_X12_more ⟨Or.inl q_12_431, s_X12_more⟩ rfl (by decide) rfl rfl ⟨by decide, by decide⟩ (jC.of rfl k_X12_more rfl ?_)
            show jX m_X12_more 3 0 0 0 [(0, .int l3), (1, .int v37)] [] _ 0 0 _
            refine x_iloadn (x := l3) rfl rfl ?_
            refine x_iloadn (x := v37) rfl rfl ?_
            refine x_icle (tgt := 9) rfl rfl (ti_le rfl rfl ⟨fun c38 => ?_, fun c38 => ?_⟩)
            ·
              refine x_iloadn (x := v37) rfl rfl ?_
              refine x_iret rfl rfl ?_
              show jX m_X12_mostFilled 4 0 0 88 [(0, .ref 125), (1, .int l1), (2, .int l2), (3, .int l3), (4, .int l4)] [.int v37] _ 0 0 _
              refine x_istoren (lsx9 := [(3, .int v37), (0, .ref 125), (1, .int l1), (2, .int l2), (4, .int l4)]) rfl rfl rfl ?_
              exact jX.sub (jsb_c rfl (jsb_c rfl (jsb_c rfl (jsb_c rfl (jsb_c rfl jsb_n))))) (ct_X12_mostFilled_r125_89 hD hQ ih l1 l2 v37 l4 h (jr_of rfl (by omega)) (jr_of rfl (by omega)) (jr_of rfl (by omega)) (jr_of rfl (by omega)) (by omega) J Sm)
            ·
              refine x_iloadn (x := l3) rfl rfl ?_
              refine x_goto (tgt := 10) rfl rfl ?_
              refine x_iret rfl rfl ?_
              show jX m_X12_mostFilled 4 0 0 88 [(0, .ref 125), (1, .int l1), (2, .int l2), (3, .int l3), (4, .int l4)] [.int l3] _ 0 0 _
              refine x_istoren (lsx9 := [(3, .int l3), (0, .ref 125), (1, .int l1), (2, .int l2), (4, .int l4)]) rfl rfl rfl ?_
              exact jX.sub (jsb_c rfl (jsb_c rfl (jsb_c rfl (jsb_c rfl (jsb_c rfl jsb_n))))) (ct_X12_mostFilled_r125_89 hD hQ ih l1 l2 l3 l4 h (jr_of rfl (by omega)) (jr_of rfl (by omega)) (jr_of rfl (by omega)) (jr_of rfl (by omega)) (by omega) J Sm)
set_option maxRecDepth 100000 in
set_option maxHeartbeats 4000000 in
theorem sf_X12_mostFilled_r125 {Dy : jH → Prop} {h : jH} {Q : Option Value → jH → Prop} {a1 : Int32} {a2 : Int32} (y1 : 0 ≤ a1.toInt ∧ a1.toInt ≤ 5) (y2 : (-146398) ≤ a2.toInt ∧ a2.toInt ≤ 146400) (hD : jDk Dy) (J : jJ jSgM Dy h) (hQ : ∀ (v : Int32) hx9, 0 ≤ v.toInt ∧ v.toInt ≤ 2147483647 → jJ jSgM Dy hx9 → jSm fp_X12_mostFilled_r125 h hx9 → Q (some (.int v)) hx9) : jC m_X12_mostFilled 4 0 0 [.ref 125, .int a1, .int a2] h Q := by
  refine jC.of rfl k_X12_mostFilled rfl ?_
  have Sm := jSm_rf fp_X12_mostFilled_r125 h
  show jX m_X12_mostFilled 4 0 0 0 [(0, .ref 125), (1, .int a1), (2, .int a2)] [] _ 0 0 _
  refine x_iconst (v := 0) rfl ki_0 ?_
  refine x_istoren (lsx9 := [(3, .int 0), (0, .ref 125), (1, .int a1), (2, .int a2)]) rfl rfl rfl ?_
  refine x_iconst (v := 0) rfl ki_0 ?_
  refine x_istore (lsx9 := [(4, .int 0), (3, .int 0), (0, .ref 125), (1, .int a1), (2, .int a2)]) rfl rfl rfl ?_
  exact jX.sub (jsb_c rfl (jsb_c rfl (jsb_c rfl (jsb_c rfl (jsb_c rfl jsb_n))))) (ct_X12_mostFilled_r125_5 hD hQ  201 a1 a2 0 0 h (by have := jk_0; omega) (jr_of rfl (by omega)) (jr_of rfl (by omega)) (jr_of jk_0 (by omega)) (jr_of jk_0 (by omega)) J Sm)
def fp_X12_fill_r125 : jFp := [(125, 0, 1), (125, 28, 29), (125, 31, 32), (125, 32, 33), (125, 33, 34), (125, 34, 35), (125, 35, 36), (125, 57, 58), (137, 0, 80), (138, 0, 2), (139, 0, 600), (140, 0, 200)]
set_option maxRecDepth 100000 in
set_option maxHeartbeats 4000000 in
theorem ct_X12_fill_r125_56 {Dy : jH → Prop} {h0 : jH} {Q : Option Value → jH → Prop} (hD : jDk Dy) (hQ : ∀ (v : Int32) hx9, jJ jSgM Dy hx9 → jSm fp_X12_fill_r125 h0 hx9 → Q (some (.int v)) hx9) : ∀ (h : jH), jJ jSgM Dy h → jSm fp_X12_fill_r125 h0 h → jX m_X12_fill 9 0 0 56 [] [] h 0 0 Q := by
  intro  h    J Sm
  refine x_iconst (v := (-1)) rfl ki_m1 ?_
  refine x_iret rfl rfl ?_
  exact hQ _ _ J Sm
set_option maxRecDepth 100000 in
set_option maxHeartbeats 4000000 in
theorem ct_X12_fill_r125_112 {Dy : jH → Prop} {h0 : jH} {Q : Option Value → jH → Prop} (hD : jDk Dy) (hQ : ∀ (v : Int32) hx9, jJ jSgM Dy hx9 → jSm fp_X12_fill_r125 h0 hx9 → Q (some (.int v)) hx9) : ∀ (s0 : Int32) (h : jH), jJ jSgM Dy h → jSm fp_X12_fill_r125 h0 h → jX m_X12_fill 9 0 0 112 [] [.int s0] h 0 0 Q := by
  intro s0 h    J Sm
  have es0 := jfull s0
  refine x_iret rfl rfl ?_
  exact hQ _ _ J Sm
set_option maxRecDepth 100000 in
set_option maxHeartbeats 4000000 in
theorem sf_X12_fill_r125 {Dy : jH → Prop} {h : jH} {Q : Option Value → jH → Prop} {a1 : Int32} {a2 : Int32} {a3 : Int32} {a4 : Int32} {a5 : Int32} (hD : jDk Dy) (J : jJ jSgM Dy h) (hQ : ∀ (v : Int32) hx9, jJ jSgM Dy hx9 → jSm fp_X12_fill_r125 h hx9 → Q (some (.int v)) hx9) : jC m_X12_fill 9 0 0 [.ref 125, .int a1, .int a2, .int a3, .int a4, .int a5] h Q := by
  refine jC.of rfl k_X12_fill rfl ?_
  have Sm := jSm_rf fp_X12_fill_r125 h
  have ea1 := jfull a1
  have ea2 := jfull a2
  have ea3 := jfull a3
  have ea4 := jfull a4
  have ea5 := jfull a5
  show jX m_X12_fill 9 0 0 0 [(0, .ref 125), (1, .int a1), (2, .int a2), (3, .int a3), (4, .int a4), (5, .int a5)] [] _ 0 0 _
  refine x_aloadn (x := 125) rfl rfl ?_
  refine x_iconst (v := 0) rfl ki_0 ?_
  refine z_putI (N := 92) (w := 0) 12 0 rfl f_12_180 rfl (jfin_no TX12 RX12 92 rfl rfl) hD J Sm rfl rfl jk_0 (pw_125_0 (by omega)) rfl (fun h w1 J Sm => ?_)
  refine x_iloadn (x := a1) rfl rfl ?_
  refine z_i2l rfl rfl (fun v2 ev2 => ?_)
  refine x_lconst (v := 0) rfl kl_0 ?_
  refine x_ldc2 (v := 5) rfl z_12_269 ?_
  refine x_inst (N := m_X12_in) (As := [.long v2, .long 0, .long 5]) (st := []) (dx9 := 1) (mc := 0) (ms := 0) (host := "") rfl t_X12_in ⟨Or.inl q_12_188, s_X12_in⟩ rfl (by decide) rfl rfl ⟨by decide, by decide⟩ (zc_X12_in rfl jkl_0 jkl_5 (fun v3 ev3 => ?_))
  show jX m_X12_fill 9 0 0 14 [(0, .ref 125), (1, .int a1), (2, .int a2), (3, .int a3), (4, .int a4), (5, .int a5)] [.int v3] _ 0 0 _
  refine x_ifeq (tgt := 56) rfl rfl (ti_eq rfl jk_0 ⟨fun c4 => ?_, fun c4 => ?_⟩)
  ·
    exact jX.sub jsb_n (ct_X12_fill_r125_56 hD hQ  h J Sm)
  ·
    refine x_iloadn (x := a3) rfl rfl ?_
    refine x_inst (N := m_X12_isDay) (As := [.int a3]) (st := []) (dx9 := 2) (mc := 0) (ms := 0) (host := "") rfl t_X12_isDay ⟨Or.inl q_12_273, s_X12_isDay⟩ rfl (by decide) rfl rfl ⟨by decide, by decide⟩ (zc_X12_isDay (d := 1) rfl (fun v5 ev5 => ?_))
    show jX m_X12_fill 9 0 0 21 [(0, .ref 125), (1, .int a1), (2, .int a2), (3, .int a3), (4, .int a4), (5, .int a5)] [.int v5] _ 0 0 _
    refine x_ifeq (tgt := 56) rfl rfl (ti_eq rfl jk_0 ⟨fun c6 => ?_, fun c6 => ?_⟩)
    ·
      exact jX.sub jsb_n (ct_X12_fill_r125_56 hD hQ  h J Sm)
    ·
      refine x_iloadn (x := a2) rfl rfl ?_
      refine z_i2l rfl rfl (fun v7 ev7 => ?_)
      refine x_lconst (v := 0) rfl kl_0 ?_
      refine x_iloadn (x := a3) rfl rfl ?_
      refine z_i2l rfl rfl (fun v8 ev8 => ?_)
      refine x_inst (N := m_X12_in) (As := [.long v7, .long 0, .long v8]) (st := []) (dx9 := 1) (mc := 0) (ms := 0) (host := "") rfl t_X12_in ⟨Or.inl q_12_188, s_X12_in⟩ rfl (by decide) rfl rfl ⟨by decide, by decide⟩ (zc_X12_in rfl jkl_0 rfl (fun v9 ev9 => ?_))
      show jX m_X12_fill 9 0 0 32 [(0, .ref 125), (1, .int a1), (2, .int a2), (3, .int a3), (4, .int a4), (5, .int a5)] [.int v9] _ 0 0 _
      refine x_ifeq (tgt := 56) rfl rfl (ti_eq rfl jk_0 ⟨fun c10 => ?_, fun c10 => ?_⟩)
      ·
        exact jX.sub jsb_n (ct_X12_fill_r125_56 hD hQ  h J Sm)
      ·
        refine x_iload (x := a4) rfl rfl ?_
        refine x_inst (N := m_X12_isDay) (As := [.int a4]) (st := []) (dx9 := 2) (mc := 0) (ms := 0) (host := "") rfl t_X12_isDay ⟨Or.inl q_12_273, s_X12_isDay⟩ rfl (by decide) rfl rfl ⟨by decide, by decide⟩ (zc_X12_isDay (d := 1) rfl (fun v11 ev11 => ?_))
        show jX m_X12_fill 9 0 0 40 [(0, .ref 125), (1, .int a1), (2, .int a2), (3, .int a3), (4, .int a4), (5, .int a5)] [.int v11] _ 0 0 _
        refine x_ifeq (tgt := 56) rfl rfl (ti_eq rfl jk_0 ⟨fun c12 => ?_, fun c12 => ?_⟩)
        ·
          exact jX.sub jsb_n (ct_X12_fill_r125_56 hD hQ  h J Sm)
        ·
          refine x_iload (x := a5) rfl rfl ?_
          refine z_i2l rfl rfl (fun v13 ev13 => ?_)
          refine x_lconst (v := 0) rfl kl_0 ?_
          refine x_ldc2 (v := 2) rfl z_12_482 ?_
          refine x_inst (N := m_X12_in) (As := [.long v13, .long 0, .long 2]) (st := []) (dx9 := 1) (mc := 0) (ms := 0) (host := "") rfl t_X12_in ⟨Or.inl q_12_188, s_X12_in⟩ rfl (by decide) rfl rfl ⟨by decide, by decide⟩ (zc_X12_in rfl jkl_0 jkl_2 (fun v14 ev14 => ?_))
          show jX m_X12_fill 9 0 0 53 [(0, .ref 125), (1, .int a1), (2, .int a2), (3, .int a3), (4, .int a4), (5, .int a5)] [.int v14] _ 0 0 _
          refine x_ifne (tgt := 58) rfl rfl (ti_ne rfl jk_0 ⟨fun c15 => ?_, fun c15 => ?_⟩)
          ·
            refine x_aloadn (x := 125) rfl rfl ?_
            refine x_iload (x := a4) rfl rfl ?_
            refine x_inv (N := m_X12_find) (As := [.int a4]) (b := 125) (st := []) (dx9 := 8) (mc := 0) (ms := 0) (host := "") 12 rfl t_X12_find ⟨Or.inl q_12_393, i_X12_find.1, i_X12_find.2⟩ ⟨by decide, rfl⟩ (congrArg Prod.fst (J.1.1 125 (12, 92) rfl)) rfl (by decide) rfl rfl ⟨by decide, by decide⟩ (sf_X12_find_r125 (jr_of rfl (by omega)) hD J  (fun h J S16 => ?_))
            have Sm := jSm_tr rfl Sm S16
            show jX m_X12_fill 9 0 0 64 [(0, .ref 125), (1, .int a1), (2, .int a2), (3, .int a3), (4, .int a4), (5, .int a5)] [] _ 0 0 _
            refine x_iload (x := a5) rfl rfl ?_
            refine x_iconst (v := 2) rfl ki_2 ?_
            refine x_icne (tgt := 78) rfl rfl (ti_ne rfl jk_2 ⟨fun c17 => ?_, fun c17 => ?_⟩)
            ·
              refine x_aloadn (x := 125) rfl rfl ?_
              refine x_iloadn (x := a1) rfl rfl ?_
              refine x_iloadn (x := a2) rfl rfl ?_
              refine x_iloadn (x := a3) rfl rfl ?_
              refine x_inv (N := m_X12_leastFilled) (As := [.int a1, .int a2, .int a3]) (b := 125) (st := []) (dx9 := 7) (mc := 0) (ms := 0) (host := "") 12 rfl t_X12_leastFilled ⟨Or.inl q_12_487, i_X12_leastFilled.1, i_X12_leastFilled.2⟩ ⟨by decide, rfl⟩ (congrArg Prod.fst (J.1.1 125 (12, 92) rfl)) rfl (by decide) rfl rfl ⟨by decide, by decide⟩ (sf_X12_leastFilled_r125 (jr_of rfl (by omega)) (jr_of rfl (by omega)) (jr_of rfl (by omega)) hD J  (fun v19 h J S18 => ?_))
              have ev19 := jfull v19
              have Sm := jSm_tr rfl Sm S18
              show jX m_X12_fill 9 0 0 85 [(0, .ref 125), (1, .int a1), (2, .int a2), (3, .int a3), (4, .int a4), (5, .int a5)] [.int v19] _ 0 0 _
              refine x_istore (lsx9 := [(6, .int v19), (0, .ref 125), (1, .int a1), (2, .int a2), (3, .int a3), (4, .int a4), (5, .int a5)]) rfl rfl rfl ?_
              refine x_iload (x := a5) rfl rfl ?_
              refine x_ifne (tgt := 97) rfl rfl (ti_ne rfl jk_0 ⟨fun c20 => ?_, fun c20 => ?_⟩)
              ·
                refine x_iload (x := v19) rfl rfl ?_
                refine x_aloadn (x := 125) rfl rfl ?_
                refine x_iloadn (x := a1) rfl rfl ?_
                refine x_iloadn (x := a3) rfl rfl ?_
                refine x_iloadn (x := a2) rfl rfl ?_
                refine z_isub rfl rfl rfl (by omega) (fun v21 ev21 => ?_)
                refine x_iconst (v := 1) rfl ki_1 ?_
                refine z_iadd rfl rfl jk_1 (by omega) (fun v22 ev22 => ?_)
                refine x_inv (N := m_X12_mostFilled) (As := [.int a1, .int v22]) (b := 125) (st := [.int v19]) (dx9 := 4) (mc := 0) (ms := 0) (host := "") 12 rfl t_X12_mostFilled ⟨Or.inl q_12_490, i_X12_mostFilled.1, i_X12_mostFilled.2⟩ ⟨by decide, rfl⟩ (congrArg Prod.fst (J.1.1 125 (12, 92) rfl)) rfl (by decide) rfl rfl ⟨by decide, by decide⟩ (sf_X12_mostFilled_r125 (jr_of rfl (by omega)) (jr_of rfl (by omega)) hD J  (fun v24 h ev24 J S23 => ?_))
                have Sm := jSm_tr rfl Sm S23
                show jX m_X12_fill 9 0 0 109 [(6, .int v19), (0, .ref 125), (1, .int a1), (2, .int a2), (3, .int a3), (4, .int a4), (5, .int a5)] [.int v24, .int v19] _ 0 0 _
                refine x_inst (N := m_X12_more) (As := [.int v19, .int v24]) (st := []) (dx9 := 8) (mc := 0) (ms := 0) (host := "") rfl t_X12_more ⟨Or.inl q_12_431, s_X12_more⟩ rfl (by decide) rfl rfl ⟨by decide, by decide⟩ (jC.of rfl k_X12_more rfl ?_)
                show jX m_X12_more 8 0 0 0 [(0, .int v19), (1, .int v24)] [] _ 0 0 _
                refine x_iloadn (x := v19) rfl rfl ?_
                refine x_iloadn (x := v24) rfl rfl ?_
                refine x_icle (tgt := 9) rfl rfl (ti_le rfl rfl ⟨fun c25 => ?_, fun c25 => ?_⟩)
                ·
                  refine x_iloadn (x := v24) rfl rfl ?_
                  refine x_iret rfl rfl ?_
                  show jX m_X12_fill 9 0 0 112 [(6, .int v19), (0, .ref 125), (1, .int a1), (2, .int a2), (3, .int a3), (4, .int a4), (5, .int a5)] [.int v24] _ 0 0 _
                  exact jX.sub jsb_n (ct_X12_fill_r125_112 hD hQ  v24 h J Sm)
                ·
                  refine x_iloadn (x := v19) rfl rfl ?_
                  refine x_goto (tgt := 10) rfl rfl ?_
                  refine x_iret rfl rfl ?_
                  show jX m_X12_fill 9 0 0 112 [(6, .int v19), (0, .ref 125), (1, .int a1), (2, .int a2), (3, .int a3), (4, .int a4), (5, .int a5)] [.int v19] _ 0 0 _
                  exact jX.sub jsb_n (ct_X12_fill_r125_112 hD hQ  v19 h J Sm)
              ·
                refine x_iload (x := v19) rfl rfl ?_
                refine x_goto (tgt := 112) rfl rfl ?_
                exact jX.sub jsb_n (ct_X12_fill_r125_112 hD hQ  v19 h J Sm)
            ·
              refine x_aloadn (x := 125) rfl rfl ?_
              refine x_iloadn (x := a1) rfl rfl ?_
              refine x_iloadn (x := a2) rfl rfl ?_
              refine x_iloadn (x := a3) rfl rfl ?_
              refine x_inv (N := m_X12_guessFilled) (As := [.int a1, .int a2, .int a3]) (b := 125) (st := []) (dx9 := 3) (mc := 0) (ms := 0) (host := "") 12 rfl t_X12_guessFilled ⟨Or.inl q_12_484, i_X12_guessFilled.1, i_X12_guessFilled.2⟩ ⟨by decide, rfl⟩ (congrArg Prod.fst (J.1.1 125 (12, 92) rfl)) rfl (by decide) rfl rfl ⟨by decide, by decide⟩ (sf_X12_guessFilled_r125 (jr_of rfl (by omega)) (jr_of rfl (by omega)) (jr_of rfl (by omega)) hD J  (fun v27 h J S26 => ?_))
              have ev27 := jfull v27
              have Sm := jSm_tr rfl Sm S26
              show jX m_X12_fill 9 0 0 77 [(0, .ref 125), (1, .int a1), (2, .int a2), (3, .int a3), (4, .int a4), (5, .int a5)] [.int v27] _ 0 0 _
              refine x_iret rfl rfl ?_
              exact hQ _ _ J Sm
          ·
            exact jX.sub jsb_n (ct_X12_fill_r125_56 hD hQ  h J Sm)
def fp_X12_servedLately_r125 : jFp := []
set_option maxRecDepth 100000 in
set_option maxHeartbeats 4000000 in
theorem ct_X12_servedLately_r125_200045 {Dy : jH → Prop} {h0 : jH} {Q : Option Value → jH → Prop} {R18 : Int} (hD : jDk Dy) (hQ : ∀ (v : Int32) hx9, 0 ≤ v.toInt ∧ v.toInt ≤ 1 → jJ jSgM Dy hx9 → jSm fp_X12_servedLately_r125 h0 hx9 → Q (some (.int v)) hx9) (k18 : ∀ (l1 : Int32) (l2 : Int32) (l4 : Int32) (l5 : Int32) (h : jH), 399 - l5.toInt < R18 → 0 ≤ l1.toInt ∧ l1.toInt ≤ 39 → 0 ≤ l2.toInt ∧ l2.toInt ≤ 399 → 0 ≤ l4.toInt ∧ l4.toInt ≤ 1 → 0 ≤ l5.toInt ∧ l5.toInt ≤ 399 → jJ jSgM Dy h → jSm fp_X12_servedLately_r125 h0 h → jX m_X12_servedLately 1 0 0 18 [(0, .ref 125), (1, .int l1), (2, .int l2), (4, .int l4), (5, .int l5)] [] h 0 0 Q) : ∀ (l1 : Int32) (l2 : Int32) (l5 : Int32) (h : jH), 0 ≤ l1.toInt ∧ l1.toInt ≤ 39 → 1 ≤ l2.toInt ∧ l2.toInt ≤ 399 → 0 ≤ l5.toInt ∧ l5.toInt ≤ 398 → 399 - l5.toInt ≤ R18 → jJ jSgM Dy h → jSm fp_X12_servedLately_r125 h0 h → jX m_X12_servedLately 1 0 0 45 [(0, .ref 125), (1, .int l1), (2, .int l2), (5, .int l5)] [.int 0] h 0 0 Q := by
  intro l1 l2 l5 h y0 y1 y2  m18 J Sm
  refine x_istore (lsx9 := [(4, .int 0), (0, .ref 125), (1, .int l1), (2, .int l2), (5, .int l5)]) rfl rfl rfl ?_
  refine z_iinc (x := l5) (lsx9 := fun v1 => [(5, .int v1), (4, .int 0), (0, .ref 125), (1, .int l1), (2, .int l2)]) rfl rfl rfl jko_1 (by omega) rfl (fun _ => rfl) (fun v1 ev1 => ?_)
  refine x_goto (tgt := 18) rfl rfl ?_
  exact jX.sub (jsb_c rfl (jsb_c rfl (jsb_c rfl (jsb_c rfl (jsb_c rfl jsb_n))))) (k18 l1 l2 0 v1 h (by omega) (jr_of rfl (by omega)) (jr_of rfl (by omega)) (jr_of jk_0 (by omega)) (jr_of rfl (by omega)) J Sm)
set_option maxRecDepth 100000 in
set_option maxHeartbeats 4000000 in
theorem ct_X12_servedLately_r125_300045 {Dy : jH → Prop} {h0 : jH} {Q : Option Value → jH → Prop} {R18 : Int} (hD : jDk Dy) (hQ : ∀ (v : Int32) hx9, 0 ≤ v.toInt ∧ v.toInt ≤ 1 → jJ jSgM Dy hx9 → jSm fp_X12_servedLately_r125 h0 hx9 → Q (some (.int v)) hx9) (k18 : ∀ (l1 : Int32) (l2 : Int32) (l4 : Int32) (l5 : Int32) (h : jH), 399 - l5.toInt < R18 → 0 ≤ l1.toInt ∧ l1.toInt ≤ 39 → 0 ≤ l2.toInt ∧ l2.toInt ≤ 399 → 0 ≤ l4.toInt ∧ l4.toInt ≤ 1 → 0 ≤ l5.toInt ∧ l5.toInt ≤ 399 → jJ jSgM Dy h → jSm fp_X12_servedLately_r125 h0 h → jX m_X12_servedLately 1 0 0 18 [(0, .ref 125), (1, .int l1), (2, .int l2), (4, .int l4), (5, .int l5)] [] h 0 0 Q) : ∀ (l1 : Int32) (l2 : Int32) (l5 : Int32) (h : jH), 0 ≤ l1.toInt ∧ l1.toInt ≤ 39 → 1 ≤ l2.toInt ∧ l2.toInt ≤ 399 → 0 ≤ l5.toInt ∧ l5.toInt ≤ 398 → 399 - l5.toInt ≤ R18 → jJ jSgM Dy h → jSm fp_X12_servedLately_r125 h0 h → jX m_X12_servedLately 1 0 0 45 [(0, .ref 125), (1, .int l1), (2, .int l2), (5, .int l5)] [.int 1] h 0 0 Q := by
  intro l1 l2 l5 h y0 y1 y2  m18 J Sm
  refine x_istore (lsx9 := [(4, .int 1), (0, .ref 125), (1, .int l1), (2, .int l2), (5, .int l5)]) rfl rfl rfl ?_
  refine z_iinc (x := l5) (lsx9 := fun v1 => [(5, .int v1), (4, .int 1), (0, .ref 125), (1, .int l1), (2, .int l2)]) rfl rfl rfl jko_1 (by omega) rfl (fun _ => rfl) (fun v1 ev1 => ?_)
  refine x_goto (tgt := 18) rfl rfl ?_
  exact jX.sub (jsb_c rfl (jsb_c rfl (jsb_c rfl (jsb_c rfl (jsb_c rfl jsb_n))))) (k18 l1 l2 1 v1 h (by omega) (jr_of rfl (by omega)) (jr_of rfl (by omega)) (jr_of jk_1 (by omega)) (jr_of rfl (by omega)) J Sm)
set_option maxRecDepth 100000 in
set_option maxHeartbeats 4000000 in
theorem ct_X12_servedLately_r125_40 {Dy : jH → Prop} {h0 : jH} {Q : Option Value → jH → Prop} {R18 : Int} (hD : jDk Dy) (hQ : ∀ (v : Int32) hx9, 0 ≤ v.toInt ∧ v.toInt ≤ 1 → jJ jSgM Dy hx9 → jSm fp_X12_servedLately_r125 h0 hx9 → Q (some (.int v)) hx9) (k18 : ∀ (l1 : Int32) (l2 : Int32) (l4 : Int32) (l5 : Int32) (h : jH), 399 - l5.toInt < R18 → 0 ≤ l1.toInt ∧ l1.toInt ≤ 39 → 0 ≤ l2.toInt ∧ l2.toInt ≤ 399 → 0 ≤ l4.toInt ∧ l4.toInt ≤ 1 → 0 ≤ l5.toInt ∧ l5.toInt ≤ 399 → jJ jSgM Dy h → jSm fp_X12_servedLately_r125 h0 h → jX m_X12_servedLately 1 0 0 18 [(0, .ref 125), (1, .int l1), (2, .int l2), (4, .int l4), (5, .int l5)] [] h 0 0 Q) : ∀ (l1 : Int32) (l2 : Int32) (l5 : Int32) (h : jH), 0 ≤ l1.toInt ∧ l1.toInt ≤ 39 → 1 ≤ l2.toInt ∧ l2.toInt ≤ 399 → 0 ≤ l5.toInt ∧ l5.toInt ≤ 398 → 399 - l5.toInt ≤ R18 → jJ jSgM Dy h → jSm fp_X12_servedLately_r125 h0 h → jX m_X12_servedLately 1 0 0 40 [(0, .ref 125), (1, .int l1), (2, .int l2), (5, .int l5)] [] h 0 0 Q := by
  intro l1 l2 l5 h y0 y1 y2  m18 J Sm
  refine x_iconst (v := 1) rfl ki_1 ?_
  refine x_goto (tgt := 45) rfl rfl ?_
  exact jX.sub (jsb_c rfl (jsb_c rfl (jsb_c rfl (jsb_c rfl jsb_n)))) (ct_X12_servedLately_r125_300045 hD hQ k18 l1 l2 l5 h (jr_of rfl (by omega)) (jr_of rfl (by omega)) (jr_of rfl (by omega)) (by omega) J Sm)
set_option maxRecDepth 100000 in
set_option maxHeartbeats 4000000 in
theorem ct_X12_servedLately_r125_18 {Dy : jH → Prop} {h0 : jH} {Q : Option Value → jH → Prop} (hD : jDk Dy) (hQ : ∀ (v : Int32) hx9, 0 ≤ v.toInt ∧ v.toInt ≤ 1 → jJ jSgM Dy hx9 → jSm fp_X12_servedLately_r125 h0 hx9 → Q (some (.int v)) hx9) : ∀ r : Nat, ∀ (l1 : Int32) (l2 : Int32) (l4 : Int32) (l5 : Int32) (h : jH), 399 - l5.toInt < (r : Int) → 0 ≤ l1.toInt ∧ l1.toInt ≤ 39 → 0 ≤ l2.toInt ∧ l2.toInt ≤ 399 → 0 ≤ l4.toInt ∧ l4.toInt ≤ 1 → 0 ≤ l5.toInt ∧ l5.toInt ≤ 399 → jJ jSgM Dy h → jSm fp_X12_servedLately_r125 h0 h → jX m_X12_servedLately 1 0 0 18 [(0, .ref 125), (1, .int l1), (2, .int l2), (4, .int l4), (5, .int l5)] [] h 0 0 Q := by
  intro r
  induction r with
  | zero =>
    intro l1 l2 l4 l5 h hm y0 y1 y2 y3   J Sm
    exfalso
    omega
  | succ r ih =>
    intro l1 l2 l4 l5 h hm y0 y1 y2 y3   J Sm
    refine x_iload (x := l5) rfl rfl ?_
    refine x_iloadn (x := l2) rfl rfl ?_
    refine x_icge (tgt := 53) rfl rfl (ti_ge rfl rfl ⟨fun c1 => ?_, fun c1 => ?_⟩)
    ·
      refine x_iload (x := l4) rfl rfl ?_
      refine x_zret rfl rfl (jz01 (by omega)) ?_
      exact hQ _ _ (jr_of rfl (by omega)) J Sm
    ·
      refine x_iload (x := l4) rfl rfl ?_
      refine x_ifne (tgt := 40) rfl rfl (ti_ne rfl jk_0 ⟨fun c2 => ?_, fun c2 => ?_⟩)
      ·
        exact jX.sub (jsb_c rfl (jsb_c rfl (jsb_c rfl (jsb_c rfl jsb_n)))) (ct_X12_servedLately_r125_40 hD hQ ih l1 l2 l5 h (jr_of rfl (by omega)) (jr_of rfl (by omega)) (jr_of rfl (by omega)) (by omega) J Sm)
      ·
        refine x_aloadn (x := 125) rfl rfl ?_
        refine z_getR (N := 92) (b := 168) 12 83 rfl f_12_162 rfl J rfl 16083 ⟨rfl, rfl⟩ rfl ?_
        refine x_iload (x := l5) rfl rfl ?_
        refine z_iald (N := 400) rfl J rfl sg_168_0_400_1_0_1 rfl (by omega) (fun v3 qv3 ev3 => ?_)
        refine x_iloadn (x := l1) rfl rfl ?_
        refine x_icne (tgt := 44) rfl rfl (ti_ne rfl rfl ⟨fun c4 => ?_, fun c4 => ?_⟩)
        ·
          refine x_iconst (v := 0) rfl ki_0 ?_
          exact jX.sub (jsb_c rfl (jsb_c rfl (jsb_c rfl (jsb_c rfl jsb_n)))) (ct_X12_servedLately_r125_200045 hD hQ ih l1 l2 l5 h (jr_of rfl (by omega)) (jr_of rfl (by omega)) (jr_of rfl (by omega)) (by omega) J Sm)
        ·
          exact jX.sub (jsb_c rfl (jsb_c rfl (jsb_c rfl (jsb_c rfl jsb_n)))) (ct_X12_servedLately_r125_40 hD hQ ih l1 l2 l5 h (jr_of rfl (by omega)) (jr_of rfl (by omega)) (jr_of rfl (by omega)) (by omega) J Sm)
set_option maxRecDepth 100000 in
set_option maxHeartbeats 4000000 in
theorem ct_X12_servedLately_r125_16 {Dy : jH → Prop} {h0 : jH} {Q : Option Value → jH → Prop} (hD : jDk Dy) (hQ : ∀ (v : Int32) hx9, 0 ≤ v.toInt ∧ v.toInt ≤ 1 → jJ jSgM Dy hx9 → jSm fp_X12_servedLately_r125 h0 hx9 → Q (some (.int v)) hx9) : ∀ (l1 : Int32) (l2 : Int32) (s0 : Int32) (h : jH), 0 ≤ l1.toInt ∧ l1.toInt ≤ 39 → 0 ≤ l2.toInt ∧ l2.toInt ≤ 399 → (-399) ≤ s0.toInt ∧ s0.toInt ≤ 399 → 0 ≤ s0.toInt → jJ jSgM Dy h → jSm fp_X12_servedLately_r125 h0 h → jX m_X12_servedLately 1 0 0 16 [(0, .ref 125), (1, .int l1), (2, .int l2), (4, .int 0)] [.int s0] h 0 0 Q := by
  intro l1 l2 s0 h y0 y1 y2 y3   J Sm
  refine x_istore (lsx9 := [(5, .int s0), (0, .ref 125), (1, .int l1), (2, .int l2), (4, .int 0)]) rfl rfl rfl ?_
  exact jX.sub (jsb_c rfl (jsb_c rfl (jsb_c rfl (jsb_c rfl (jsb_c rfl jsb_n))))) (ct_X12_servedLately_r125_18 hD hQ  400 l1 l2 0 s0 h (by omega) (jr_of rfl (by omega)) (jr_of rfl (by omega)) (jr_of jk_0 (by omega)) (jr_of rfl (by omega)) J Sm)
set_option maxRecDepth 100000 in
set_option maxHeartbeats 4000000 in
theorem ct_X12_servedLately_r125_200016 {Dy : jH → Prop} {h0 : jH} {Q : Option Value → jH → Prop} (hD : jDk Dy) (hQ : ∀ (v : Int32) hx9, 0 ≤ v.toInt ∧ v.toInt ≤ 1 → jJ jSgM Dy hx9 → jSm fp_X12_servedLately_r125 h0 hx9 → Q (some (.int v)) hx9) : ∀ (l1 : Int32) (l2 : Int32) (h : jH), 0 ≤ l1.toInt ∧ l1.toInt ≤ 39 → 0 ≤ l2.toInt ∧ l2.toInt ≤ 399 → jJ jSgM Dy h → jSm fp_X12_servedLately_r125 h0 h → jX m_X12_servedLately 1 0 0 16 [(0, .ref 125), (1, .int l1), (2, .int l2), (4, .int 0)] [.int 0] h 0 0 Q := by
  intro l1 l2 h y0 y1   J Sm
  refine x_istore (lsx9 := [(5, .int 0), (0, .ref 125), (1, .int l1), (2, .int l2), (4, .int 0)]) rfl rfl rfl ?_
  exact jX.sub (jsb_c rfl (jsb_c rfl (jsb_c rfl (jsb_c rfl (jsb_c rfl jsb_n))))) (ct_X12_servedLately_r125_18 hD hQ  400 l1 l2 0 0 h (by have := jk_0; omega) (jr_of rfl (by omega)) (jr_of rfl (by omega)) (jr_of jk_0 (by omega)) (jr_of jk_0 (by omega)) J Sm)
set_option maxRecDepth 100000 in
set_option maxHeartbeats 4000000 in
theorem sf_X12_servedLately_r125 {Dy : jH → Prop} {h : jH} {Q : Option Value → jH → Prop} {a1 : Int32} {a2 : Int32} {a3 : Int32} (y1 : 0 ≤ a1.toInt ∧ a1.toInt ≤ 39) (y2 : 0 ≤ a2.toInt ∧ a2.toInt ≤ 399) (y3 : 0 ≤ a3.toInt ∧ a3.toInt ≤ 399) (hD : jDk Dy) (J : jJ jSgM Dy h) (hQ : ∀ (v : Int32) hx9, 0 ≤ v.toInt ∧ v.toInt ≤ 1 → jJ jSgM Dy hx9 → jSm fp_X12_servedLately_r125 h hx9 → Q (some (.int v)) hx9) : jC m_X12_servedLately 1 0 0 [.ref 125, .int a1, .int a2, .int a3] h Q := by
  refine jC.of rfl k_X12_servedLately rfl ?_
  have Sm := jSm_rf fp_X12_servedLately_r125 h
  show jX m_X12_servedLately 1 0 0 0 [(0, .ref 125), (1, .int a1), (2, .int a2), (3, .int a3)] [] _ 0 0 _
  refine x_iconst (v := 0) rfl ki_0 ?_
  refine x_istore (lsx9 := [(4, .int 0), (0, .ref 125), (1, .int a1), (2, .int a2), (3, .int a3)]) rfl rfl rfl ?_
  refine x_iloadn (x := a2) rfl rfl ?_
  refine x_iloadn (x := a3) rfl rfl ?_
  refine z_isub rfl rfl rfl (by omega) (fun v1 ev1 => ?_)
  refine x_ifge (tgt := 13) rfl rfl (ti_ge rfl jk_0 ⟨fun c2 => ?_, fun c2 => ?_⟩)
  ·
    refine x_iloadn (x := a2) rfl rfl ?_
    refine x_iloadn (x := a3) rfl rfl ?_
    refine z_isub rfl rfl rfl (by omega) (fun v3 ev3 => ?_)
    exact jX.sub (jsb_c rfl (jsb_c rfl (jsb_c rfl (jsb_c rfl jsb_n)))) (ct_X12_servedLately_r125_16 hD hQ  a1 a2 v3 h (jr_of rfl (by omega)) (jr_of rfl (by omega)) (jr_of rfl (by omega)) (by omega) J Sm)
  ·
    refine x_iconst (v := 0) rfl ki_0 ?_
    refine x_goto (tgt := 16) rfl rfl ?_
    exact jX.sub (jsb_c rfl (jsb_c rfl (jsb_c rfl (jsb_c rfl jsb_n)))) (ct_X12_servedLately_r125_200016 hD hQ  a1 a2 h (jr_of rfl (by omega)) (jr_of rfl (by omega)) J Sm)
def fp_X12_turnClause_r125 : jFp := [(125, 57, 58), (152, 0, 360), (153, 0, 30)]
set_option maxRecDepth 100000 in
set_option maxHeartbeats 4000000 in
theorem ct_X12_turnClause_r125_119 {Dy : jH → Prop} {h0 : jH} {Q : Option Value → jH → Prop} {R5 : Int} (hD : jDk Dy) (hQ : ∀ (v : Int32) hx9, (-1) ≤ v.toInt ∧ v.toInt ≤ 359 → jJ jSgM Dy hx9 → jSm fp_X12_turnClause_r125 h0 hx9 → jTc v hx9 → Q (some (.int v)) hx9) (k5 : ∀ (l1 : Int32) (l2 : Int32) (l3 : Int32) (l4 : Int32) (h : jH), 720 - l4.toInt < R5 → 0 ≤ l1.toInt ∧ l1.toInt ≤ 3 → 0 ≤ l2.toInt ∧ l2.toInt ≤ 146034 → l2.toInt % 366 = 0 → (-1) ≤ l3.toInt ∧ l3.toInt ≤ 359 → 0 ≤ l4.toInt ∧ l4.toInt ≤ 720 → jTc l3 h → jJ jSgM Dy h → jSm fp_X12_turnClause_r125 h0 h → jX m_X12_turnClause 5 0 0 5 [(0, .ref 125), (1, .int l1), (2, .int l2), (3, .int l3), (4, .int l4)] [] h 0 0 Q) : ∀ (l1 : Int32) (l2 : Int32) (l3 : Int32) (l4 : Int32) (h : jH), 0 ≤ l1.toInt ∧ l1.toInt ≤ 3 → 0 ≤ l2.toInt ∧ l2.toInt ≤ 146034 → l2.toInt % 366 = 0 → (-1) ≤ l3.toInt ∧ l3.toInt ≤ 359 → 0 ≤ l4.toInt ∧ l4.toInt ≤ 719 → jTc l3 h → 720 - l4.toInt ≤ R5 → jJ jSgM Dy h → jSm fp_X12_turnClause_r125 h0 h → jX m_X12_turnClause 5 0 0 119 [(0, .ref 125), (1, .int l1), (2, .int l2), (3, .int l3), (4, .int l4)] [] h 0 0 Q := by
  intro l1 l2 l3 l4 h y0 y1 y2 y3 y4 C0  m5 J Sm
  refine z_iinc (x := l4) (lsx9 := fun v1 => [(4, .int v1), (0, .ref 125), (1, .int l1), (2, .int l2), (3, .int l3)]) rfl rfl rfl jko_1 (by omega) rfl (fun _ => rfl) (fun v1 ev1 => ?_)
  refine x_goto (tgt := 5) rfl rfl ?_
  exact jX.sub (jsb_c rfl (jsb_c rfl (jsb_c rfl (jsb_c rfl (jsb_c rfl jsb_n))))) (k5 l1 l2 l3 v1 h (by omega) (jr_of rfl (by omega)) (jr_of rfl (by omega)) (jr_mod rfl (by omega)) (jr_of rfl (by omega)) (jr_of rfl (by omega)) C0 J Sm)
set_option maxRecDepth 100000 in
set_option maxHeartbeats 4000000 in
theorem ct_X12_turnClause_r125_5 {Dy : jH → Prop} {h0 : jH} {Q : Option Value → jH → Prop} (hD : jDk Dy) (hQ : ∀ (v : Int32) hx9, (-1) ≤ v.toInt ∧ v.toInt ≤ 359 → jJ jSgM Dy hx9 → jSm fp_X12_turnClause_r125 h0 hx9 → jTc v hx9 → Q (some (.int v)) hx9) : ∀ r : Nat, ∀ (l1 : Int32) (l2 : Int32) (l3 : Int32) (l4 : Int32) (h : jH), 720 - l4.toInt < (r : Int) → 0 ≤ l1.toInt ∧ l1.toInt ≤ 3 → 0 ≤ l2.toInt ∧ l2.toInt ≤ 146034 → l2.toInt % 366 = 0 → (-1) ≤ l3.toInt ∧ l3.toInt ≤ 359 → 0 ≤ l4.toInt ∧ l4.toInt ≤ 720 → jTc l3 h → jJ jSgM Dy h → jSm fp_X12_turnClause_r125 h0 h → jX m_X12_turnClause 5 0 0 5 [(0, .ref 125), (1, .int l1), (2, .int l2), (3, .int l3), (4, .int l4)] [] h 0 0 Q := by
  intro r
  induction r with
  | zero =>
    intro l1 l2 l3 l4 h hm y0 y1 y2 y3 y4 C0   J Sm
    exfalso
    omega
  | succ r ih =>
    intro l1 l2 l3 l4 h hm y0 y1 y2 y3 y4 C0   J Sm
    refine x_iload (x := l4) rfl rfl ?_
    refine x_sipush (v := 720) rfl ks_720 ?_
    refine x_icge (tgt := 125) rfl rfl (ti_ge rfl jk_720 ⟨fun c1 => ?_, fun c1 => ?_⟩)
    ·
      refine x_iloadn (x := l3) rfl rfl ?_
      refine x_iret rfl rfl ?_
      exact hQ _ _ (jr_of rfl (by omega)) J Sm C0
    ·
      refine x_iload (x := l4) rfl rfl ?_
      refine x_sipush (v := 360) rfl ks_360 ?_
      refine z_irem rfl rfl jk_360 (by omega) (by omega) (fun v2 ev2 => ?_)
      refine x_bipush (v := 12) rfl kb_12 ?_
      refine z_idiv rfl rfl jk_12 (by omega) (by omega) (fun v3 ev3 => ?_)
      refine x_istore (lsx9 := [(5, .int v3), (0, .ref 125), (1, .int l1), (2, .int l2), (3, .int l3), (4, .int l4)]) rfl rfl rfl ?_
      refine x_iload (x := l4) rfl rfl ?_
      refine x_bipush (v := 12) rfl kb_12 ?_
      refine z_irem rfl rfl jk_12 (by omega) (by omega) (fun v4 ev4 => ?_)
      refine x_istore (lsx9 := [(6, .int v4), (5, .int v3), (0, .ref 125), (1, .int l1), (2, .int l2), (3, .int l3), (4, .int l4)]) rfl rfl rfl ?_
      refine x_aloadn (x := 125) rfl rfl ?_
      refine x_iload (x := v3) rfl rfl ?_
      refine x_iload (x := v4) rfl rfl ?_
      refine x_inv (N := m_X12_isClause) (As := [.int v3, .int v4]) (b := 125) (st := []) (dx9 := 4) (mc := 0) (ms := 0) (host := "") 12 rfl t_X12_isClause ⟨Or.inl q_12_685, i_X12_isClause.1, i_X12_isClause.2⟩ ⟨by decide, rfl⟩ (congrArg Prod.fst (J.1.1 125 (12, 92) rfl)) rfl (by decide) rfl rfl ⟨by decide, by decide⟩ (jC.of rfl k_X12_isClause rfl ?_)
      show jX m_X12_isClause 4 0 0 0 [(0, .ref 125), (1, .int v3), (2, .int v4)] [] _ 0 0 _
      refine x_iloadn (x := v3) rfl rfl ?_
      refine z_i2l rfl rfl (fun v5 ev5 => ?_)
      refine x_lconst (v := 0) rfl kl_0 ?_
      refine x_aloadn (x := 125) rfl rfl ?_
      refine z_getR (N := 92) (b := 126) 12 2 rfl f_12_8 rfl J rfl 16002 ⟨rfl, rfl⟩ rfl ?_
      refine x_iconst (v := 4) rfl ki_4 ?_
      refine z_iald (N := 50660) rfl J rfl sg_126_4_5_1_0_1 jk_4 (by omega) (fun v6 qv6 ev6 => ?_)
      refine z_i2l rfl rfl (fun v7 ev7 => ?_)
      refine x_lconst (v := 1) rfl kl_1 ?_
      refine z_lsub rfl rfl jkl_1 (by omega) (fun v8 ev8 => ?_)
      refine x_inst (N := m_X12_in) (As := [.long v5, .long 0, .long v8]) (st := []) (dx9 := 1) (mc := 0) (ms := 0) (host := "") rfl t_X12_in ⟨Or.inl q_12_188, s_X12_in⟩ rfl (by decide) rfl rfl ⟨by decide, by decide⟩ (zc_X12_in rfl jkl_0 rfl (fun v9 ev9 => ?_))
      show jX m_X12_isClause 4 0 0 15 [(0, .ref 125), (1, .int v3), (2, .int v4)] [.int v9] _ 0 0 _
      refine x_ifeq (tgt := 45) rfl rfl (ti_eq rfl jk_0 ⟨fun c10 => ?_, fun c10 => ?_⟩)
      ·
        refine x_iconst (v := 0) rfl ki_0 ?_
        refine x_zret rfl rfl (by decide) ?_
        show jX m_X12_turnClause 5 0 0 39 [(6, .int v4), (5, .int v3), (0, .ref 125), (1, .int l1), (2, .int l2), (3, .int l3), (4, .int l4)] [.int 0] _ 0 0 _
        refine x_ifeq (tgt := 119) rfl rfl (ti_eq jk_0 jk_0 (br_t (by omega) ?_))
        exact jX.sub (jsb_c rfl (jsb_c rfl (jsb_c rfl (jsb_c rfl (jsb_c rfl jsb_n))))) (ct_X12_turnClause_r125_119 hD hQ ih l1 l2 l3 l4 h (jr_of rfl (by omega)) (jr_of rfl (by omega)) (jr_mod rfl (by omega)) (jr_of rfl (by omega)) (jr_of rfl (by omega)) C0 (by omega) J Sm)
      ·
        refine x_iloadn (x := v4) rfl rfl ?_
        refine z_i2l rfl rfl (fun v11 ev11 => ?_)
        refine x_lconst (v := 0) rfl kl_0 ?_
        refine x_aloadn (x := 125) rfl rfl ?_
        refine z_getR (N := 92) (b := 126) 12 2 rfl f_12_8 rfl J rfl 16002 ⟨rfl, rfl⟩ rfl ?_
        refine x_iloadn (x := v3) rfl rfl ?_
        refine x_inst (N := m_X12_textAt) (As := [.int v3]) (st := [.ref 126, .long 0, .long v11]) (dx9 := 3) (mc := 0) (ms := 0) (host := "") rfl t_X12_textAt ⟨Or.inl q_12_676, s_X12_textAt⟩ rfl (by decide) rfl rfl ⟨by decide, by decide⟩ (jC.of rfl k_X12_textAt rfl ?_)
        show jX m_X12_textAt 3 0 0 0 [(0, .int v3)] [] _ 0 0 _
        refine x_sipush (v := 18820) rfl ks_18820 ?_
        refine x_sipush (v := 924) rfl ks_924 ?_
        refine x_iloadn (x := v3) rfl rfl ?_
        refine z_imul rfl jk_924 rfl (by omega) (fun v12 ev12 => ?_)
        refine z_iadd rfl jk_18820 rfl (by omega) (fun v13 ev13 => ?_)
        refine x_iret rfl rfl ?_
        show jX m_X12_isClause 4 0 0 29 [(0, .ref 125), (1, .int v3), (2, .int v4)] [.int v13, .ref 126, .long 0, .long v11] _ 0 0 _
        refine x_iconst (v := 3) rfl ki_3 ?_
        refine z_iadd rfl rfl jk_3 (by omega) (fun v14 ev14 => ?_)
        refine z_iald (N := 50660) rfl J rfl sg_126_18820_46540_924_3_4 rfl (by omega) (fun v15 qv15 ev15 => ?_)
        refine z_i2l rfl rfl (fun v16 ev16 => ?_)
        refine x_lconst (v := 1) rfl kl_1 ?_
        refine z_lsub rfl rfl jkl_1 (by omega) (fun v17 ev17 => ?_)
        refine x_inst (N := m_X12_in) (As := [.long v11, .long 0, .long v17]) (st := []) (dx9 := 1) (mc := 0) (ms := 0) (host := "") rfl t_X12_in ⟨Or.inl q_12_188, s_X12_in⟩ rfl (by decide) rfl rfl ⟨by decide, by decide⟩ (zc_X12_in rfl jkl_0 rfl (fun v18 ev18 => ?_))
        show jX m_X12_isClause 4 0 0 38 [(0, .ref 125), (1, .int v3), (2, .int v4)] [.int v18] _ 0 0 _
        refine x_ifeq (tgt := 45) rfl rfl (ti_eq rfl jk_0 ⟨fun c19 => ?_, fun c19 => ?_⟩)
        ·
          refine x_iconst (v := 0) rfl ki_0 ?_
          refine x_zret rfl rfl (by decide) ?_
          show jX m_X12_turnClause 5 0 0 39 [(6, .int v4), (5, .int v3), (0, .ref 125), (1, .int l1), (2, .int l2), (3, .int l3), (4, .int l4)] [.int 0] _ 0 0 _
          refine x_ifeq (tgt := 119) rfl rfl (ti_eq jk_0 jk_0 (br_t (by omega) ?_))
          exact jX.sub (jsb_c rfl (jsb_c rfl (jsb_c rfl (jsb_c rfl (jsb_c rfl jsb_n))))) (ct_X12_turnClause_r125_119 hD hQ ih l1 l2 l3 l4 h (jr_of rfl (by omega)) (jr_of rfl (by omega)) (jr_mod rfl (by omega)) (jr_of rfl (by omega)) (jr_of rfl (by omega)) C0 (by omega) J Sm)
        ·
          refine x_iconst (v := 1) rfl ki_1 ?_
          refine x_goto (tgt := 46) rfl rfl ?_
          refine x_zret rfl rfl (by decide) ?_
          show jX m_X12_turnClause 5 0 0 39 [(6, .int v4), (5, .int v3), (0, .ref 125), (1, .int l1), (2, .int l2), (3, .int l3), (4, .int l4)] [.int 1] _ 0 0 _
          refine x_ifeq (tgt := 119) rfl rfl (ti_eq jk_1 jk_0 (br_f (by omega) ?_))
          refine x_aloadn (x := 125) rfl rfl ?_
          refine z_getR (N := 92) (b := 126) 12 2 rfl f_12_8 rfl J rfl 16002 ⟨rfl, rfl⟩ rfl ?_
          refine x_iload (x := v3) rfl rfl ?_
          refine x_inst (N := m_X12_textAt) (As := [.int v3]) (st := [.ref 126]) (dx9 := 4) (mc := 0) (ms := 0) (host := "") rfl t_X12_textAt ⟨Or.inl q_12_676, s_X12_textAt⟩ rfl (by decide) rfl rfl ⟨by decide, by decide⟩ (jC.of rfl k_X12_textAt rfl ?_)
          show jX m_X12_textAt 4 0 0 0 [(0, .int v3)] [] _ 0 0 _
          refine x_sipush (v := 18820) rfl ks_18820 ?_
          refine x_sipush (v := 924) rfl ks_924 ?_
          refine x_iloadn (x := v3) rfl rfl ?_
          refine z_imul rfl jk_924 rfl (by omega) (fun v20 ev20 => ?_)
          refine z_iadd rfl jk_18820 rfl (by omega) (fun v21 ev21 => ?_)
          refine x_iret rfl rfl ?_
          show jX m_X12_turnClause 5 0 0 51 [(6, .int v4), (5, .int v3), (0, .ref 125), (1, .int l1), (2, .int l2), (3, .int l3), (4, .int l4)] [.int v21, .ref 126] _ 0 0 _
          refine z_iald (N := 50660) rfl J rfl sg_126_18820_46540_924_0_1 rfl (by omega) (fun v22 qv22 ev22 => ?_)
          refine x_iload (x := l4) rfl rfl ?_
          refine x_sipush (v := 360) rfl ks_360 ?_
          refine z_idiv rfl rfl jk_360 (by omega) (by omega) (fun v23 ev23 => ?_)
          refine x_icne (tgt := 119) rfl rfl (ti_ne rfl rfl ⟨fun c24 => ?_, fun c24 => ?_⟩)
          ·
            exact jX.sub (jsb_c rfl (jsb_c rfl (jsb_c rfl (jsb_c rfl (jsb_c rfl jsb_n))))) (ct_X12_turnClause_r125_119 hD hQ ih l1 l2 l3 l4 h (jr_of rfl (by omega)) (jr_of rfl (by omega)) (jr_mod rfl (by omega)) (jr_of rfl (by omega)) (jr_of rfl (by omega)) C0 (by omega) J Sm)
          ·
            refine x_aloadn (x := 125) rfl rfl ?_
            refine z_getR (N := 92) (b := 126) 12 2 rfl f_12_8 rfl J rfl 16002 ⟨rfl, rfl⟩ rfl ?_
            refine x_aloadn (x := 125) rfl rfl ?_
            refine x_iload (x := v3) rfl rfl ?_
            refine x_iload (x := v4) rfl rfl ?_
            refine x_inv (N := m_X12_clauseAt) (As := [.int v3, .int v4]) (b := 125) (st := [.ref 126]) (dx9 := 4) (mc := 0) (ms := 0) (host := "") 12 rfl t_X12_clauseAt ⟨Or.inl q_12_679, i_X12_clauseAt.1, i_X12_clauseAt.2⟩ ⟨by decide, rfl⟩ (congrArg Prod.fst (J.1.1 125 (12, 92) rfl)) rfl (by decide) rfl rfl ⟨by decide, by decide⟩ (jC.of rfl k_X12_clauseAt rfl ?_)
            show jX m_X12_clauseAt 4 0 0 0 [(0, .ref 125), (1, .int v3), (2, .int v4)] [] _ 0 0 _
            refine x_iloadn (x := v3) rfl rfl ?_
            refine x_inst (N := m_X12_textAt) (As := [.int v3]) (st := []) (dx9 := 3) (mc := 0) (ms := 0) (host := "") rfl t_X12_textAt ⟨Or.inl q_12_676, s_X12_textAt⟩ rfl (by decide) rfl rfl ⟨by decide, by decide⟩ (jC.of rfl k_X12_textAt rfl ?_)
            show jX m_X12_textAt 3 0 0 0 [(0, .int v3)] [] _ 0 0 _
            refine x_sipush (v := 18820) rfl ks_18820 ?_
            refine x_sipush (v := 924) rfl ks_924 ?_
            refine x_iloadn (x := v3) rfl rfl ?_
            refine z_imul rfl jk_924 rfl (by omega) (fun v25 ev25 => ?_)
            refine z_iadd rfl jk_18820 rfl (by omega) (fun v26 ev26 => ?_)
            refine x_iret rfl rfl ?_
            show jX m_X12_clauseAt 4 0 0 4 [(0, .ref 125), (1, .int v3), (2, .int v4)] [.int v26] _ 0 0 _
            refine x_iconst (v := 4) rfl ki_4 ?_
            refine z_iadd rfl rfl jk_4 (by omega) (fun v27 ev27 => ?_)
            refine x_bipush (v := 10) rfl kb_10 ?_
            refine x_iloadn (x := v4) rfl rfl ?_
            refine z_imul rfl jk_10 rfl (by omega) (fun v28 ev28 => ?_)
            refine z_iadd rfl rfl rfl (by omega) (fun v29 ev29 => ?_)
            refine x_iret rfl rfl ?_
            show jX m_X12_turnClause 5 0 0 73 [(6, .int v4), (5, .int v3), (0, .ref 125), (1, .int l1), (2, .int l2), (3, .int l3), (4, .int l4)] [.int v29, .ref 126] _ 0 0 _
            refine z_iald0 (N := 50660) rfl J rfl rfl (by omega) (fun v30 qv30 => ?_)
            have ev30 := jfull v30
            refine x_bipush (v := 6) rfl kb_6 ?_
            refine x_icne (tgt := 119) rfl rfl (ti_ne rfl jk_6 ⟨fun c31 => ?_, fun c31 => ?_⟩)
            ·
              exact jX.sub (jsb_c rfl (jsb_c rfl (jsb_c rfl (jsb_c rfl (jsb_c rfl jsb_n))))) (ct_X12_turnClause_r125_119 hD hQ ih l1 l2 l3 l4 h (jr_of rfl (by omega)) (jr_of rfl (by omega)) (jr_mod rfl (by omega)) (jr_of rfl (by omega)) (jr_of rfl (by omega)) C0 (by omega) J Sm)
            ·
              refine x_aloadn (x := 125) rfl rfl ?_
              refine z_getR (N := 92) (b := 126) 12 2 rfl f_12_8 rfl J rfl 16002 ⟨rfl, rfl⟩ rfl ?_
              refine x_aloadn (x := 125) rfl rfl ?_
              refine x_iload (x := v3) rfl rfl ?_
              refine x_iload (x := v4) rfl rfl ?_
              refine x_inv (N := m_X12_clauseAt) (As := [.int v3, .int v4]) (b := 125) (st := [.ref 126]) (dx9 := 4) (mc := 0) (ms := 0) (host := "") 12 rfl t_X12_clauseAt ⟨Or.inl q_12_679, i_X12_clauseAt.1, i_X12_clauseAt.2⟩ ⟨by decide, rfl⟩ (congrArg Prod.fst (J.1.1 125 (12, 92) rfl)) rfl (by decide) rfl rfl ⟨by decide, by decide⟩ (jC.of rfl k_X12_clauseAt rfl ?_)
              show jX m_X12_clauseAt 4 0 0 0 [(0, .ref 125), (1, .int v3), (2, .int v4)] [] _ 0 0 _
              refine x_iloadn (x := v3) rfl rfl ?_
              refine x_inst (N := m_X12_textAt) (As := [.int v3]) (st := []) (dx9 := 3) (mc := 0) (ms := 0) (host := "") rfl t_X12_textAt ⟨Or.inl q_12_676, s_X12_textAt⟩ rfl (by decide) rfl rfl ⟨by decide, by decide⟩ (jC.of rfl k_X12_textAt rfl ?_)
              show jX m_X12_textAt 3 0 0 0 [(0, .int v3)] [] _ 0 0 _
              refine x_sipush (v := 18820) rfl ks_18820 ?_
              refine x_sipush (v := 924) rfl ks_924 ?_
              refine x_iloadn (x := v3) rfl rfl ?_
              refine z_imul rfl jk_924 rfl (by omega) (fun v32 ev32 => ?_)
              refine z_iadd rfl jk_18820 rfl (by omega) (fun v33 ev33 => ?_)
              refine x_iret rfl rfl ?_
              show jX m_X12_clauseAt 4 0 0 4 [(0, .ref 125), (1, .int v3), (2, .int v4)] [.int v33] _ 0 0 _
              refine x_iconst (v := 4) rfl ki_4 ?_
              refine z_iadd rfl rfl jk_4 (by omega) (fun v34 ev34 => ?_)
              refine x_bipush (v := 10) rfl kb_10 ?_
              refine x_iloadn (x := v4) rfl rfl ?_
              refine z_imul rfl jk_10 rfl (by omega) (fun v35 ev35 => ?_)
              refine z_iadd rfl rfl rfl (by omega) (fun v36 ev36 => ?_)
              refine x_iret rfl rfl ?_
              show jX m_X12_turnClause 5 0 0 91 [(6, .int v4), (5, .int v3), (0, .ref 125), (1, .int l1), (2, .int l2), (3, .int l3), (4, .int l4)] [.int v36, .ref 126] _ 0 0 _
              refine x_iconst (v := 1) rfl ki_1 ?_
              refine z_iadd rfl rfl jk_1 (by omega) (fun v37 ev37 => ?_)
              refine z_iald0 (N := 50660) rfl J rfl rfl (by omega) (fun v38 qv38 => ?_)
              have ev38 := jfull v38
              refine x_iloadn (x := l1) rfl rfl ?_
              refine x_icne (tgt := 119) rfl rfl (ti_ne rfl rfl ⟨fun c39 => ?_, fun c39 => ?_⟩)
              ·
                exact jX.sub (jsb_c rfl (jsb_c rfl (jsb_c rfl (jsb_c rfl (jsb_c rfl jsb_n))))) (ct_X12_turnClause_r125_119 hD hQ ih l1 l2 l3 l4 h (jr_of rfl (by omega)) (jr_of rfl (by omega)) (jr_mod rfl (by omega)) (jr_of rfl (by omega)) (jr_of rfl (by omega)) C0 (by omega) J Sm)
              ·
                refine x_aloadn (x := 125) rfl rfl ?_
                refine x_iload (x := v3) rfl rfl ?_
                refine x_iload (x := v4) rfl rfl ?_
                refine x_iloadn (x := l2) rfl rfl ?_
                refine x_inv (N := m_X12_isForce) (As := [.int v3, .int v4, .int l2]) (b := 125) (st := []) (dx9 := 4) (mc := 0) (ms := 0) (host := "") 12 rfl t_X12_isForce ⟨Or.inl q_12_688, i_X12_isForce.1, i_X12_isForce.2⟩ ⟨by decide, rfl⟩ (congrArg Prod.fst (J.1.1 125 (12, 92) rfl)) rfl (by decide) rfl rfl ⟨by decide, by decide⟩ (jC.of rfl k_X12_isForce rfl ?_)
                show jX m_X12_isForce 4 0 0 0 [(0, .ref 125), (1, .int v3), (2, .int v4), (3, .int l2)] [] _ 0 0 _
                refine x_aloadn (x := 125) rfl rfl ?_
                refine x_iloadn (x := l2) rfl rfl ?_
                refine x_inv (N := m_X12_findForce) (As := [.int l2]) (b := 125) (st := []) (dx9 := 3) (mc := 0) (ms := 0) (host := "") 12 rfl t_X12_findForce ⟨Or.inl q_12_682, i_X12_findForce.1, i_X12_findForce.2⟩ ⟨by decide, rfl⟩ (congrArg Prod.fst (J.1.1 125 (12, 92) rfl)) rfl (by decide) rfl rfl ⟨by decide, by decide⟩ (sf_X12_findForce_r125 (jr_of rfl (by omega)) hD J  (fun h J S40 => ?_))
                have Sm := jSm_tr rfl Sm S40
                show jX m_X12_isForce 4 0 0 5 [(0, .ref 125), (1, .int v3), (2, .int v4), (3, .int l2)] [] _ 0 0 _
                refine x_aloadn (x := 125) rfl rfl ?_
                refine z_getR (N := 92) (b := 153) 12 59 rfl f_12_117 rfl J rfl 16059 ⟨rfl, rfl⟩ rfl ?_
                refine x_iloadn (x := v3) rfl rfl ?_
                refine z_zald (N := 30) rfl J rfl sg_153_0_30_1_0_1 rfl (by omega) (fun v41 qv41 ev41 => ?_)
                refine x_ifeq (tgt := 32) rfl rfl (ti_eq rfl jk_0 ⟨fun c42 => ?_, fun c42 => ?_⟩)
                ·
                  refine x_iconst (v := 0) rfl ki_0 ?_
                  refine x_zret rfl rfl (by decide) ?_
                  show jX m_X12_turnClause 5 0 0 107 [(6, .int v4), (5, .int v3), (0, .ref 125), (1, .int l1), (2, .int l2), (3, .int l3), (4, .int l4)] [.int 0] _ 0 0 _
                  refine x_ifeq (tgt := 119) rfl rfl (ti_eq jk_0 jk_0 (br_t (by omega) ?_))
                  exact jX.sub (jsb_c rfl (jsb_c rfl (jsb_c rfl (jsb_c rfl (jsb_c rfl jsb_n))))) (ct_X12_turnClause_r125_119 hD hQ ih l1 l2 l3 l4 h (jr_of rfl (by omega)) (jr_of rfl (by omega)) (jr_mod rfl (by omega)) (jr_of rfl (by omega)) (jr_of rfl (by omega)) (jtc_e (jeq_c S40 rfl jeq_0) C0) (by omega) J Sm)
                ·
                  refine x_aloadn (x := 125) rfl rfl ?_
                  refine z_getR (N := 92) (b := 152) 12 58 rfl f_12_114 rfl J rfl 16058 ⟨rfl, rfl⟩ rfl ?_
                  refine x_bipush (v := 12) rfl kb_12 ?_
                  refine x_iloadn (x := v3) rfl rfl ?_
                  refine z_imul rfl jk_12 rfl (by omega) (fun v43 ev43 => ?_)
                  refine x_iloadn (x := v4) rfl rfl ?_
                  refine z_iadd rfl rfl rfl (by omega) (fun v44 ev44 => ?_)
                  refine z_zald (N := 360) rfl J rfl sg_152_0_360_1_0_1 rfl (by omega) (fun v45 qv45 ev45 => ?_)
                  refine x_ifne (tgt := 32) rfl rfl (ti_ne rfl jk_0 ⟨fun c46 => ?_, fun c46 => ?_⟩)
                  ·
                    refine x_iconst (v := 0) rfl ki_0 ?_
                    refine x_zret rfl rfl (by decide) ?_
                    show jX m_X12_turnClause 5 0 0 107 [(6, .int v4), (5, .int v3), (0, .ref 125), (1, .int l1), (2, .int l2), (3, .int l3), (4, .int l4)] [.int 0] _ 0 0 _
                    refine x_ifeq (tgt := 119) rfl rfl (ti_eq jk_0 jk_0 (br_t (by omega) ?_))
                    exact jX.sub (jsb_c rfl (jsb_c rfl (jsb_c rfl (jsb_c rfl (jsb_c rfl jsb_n))))) (ct_X12_turnClause_r125_119 hD hQ ih l1 l2 l3 l4 h (jr_of rfl (by omega)) (jr_of rfl (by omega)) (jr_mod rfl (by omega)) (jr_of rfl (by omega)) (jr_of rfl (by omega)) (jtc_e (jeq_c S40 rfl jeq_0) C0) (by omega) J Sm)
                  ·
                    refine x_iconst (v := 1) rfl ki_1 ?_
                    refine x_goto (tgt := 33) rfl rfl ?_
                    refine x_zret rfl rfl (by decide) ?_
                    show jX m_X12_turnClause 5 0 0 107 [(6, .int v4), (5, .int v3), (0, .ref 125), (1, .int l1), (2, .int l2), (3, .int l3), (4, .int l4)] [.int 1] _ 0 0 _
                    refine x_ifeq (tgt := 119) rfl rfl (ti_eq jk_1 jk_0 (br_f (by omega) ?_))
                    refine x_bipush (v := 12) rfl kb_12 ?_
                    refine x_iload (x := v3) rfl rfl ?_
                    refine z_imul rfl jk_12 rfl (by omega) (fun v47 ev47 => ?_)
                    refine x_iload (x := v4) rfl rfl ?_
                    refine z_iadd rfl rfl rfl (by omega) (fun v48 ev48 => ?_)
                    refine x_istoren (lsx9 := [(3, .int v48), (6, .int v4), (5, .int v3), (0, .ref 125), (1, .int l1), (2, .int l2), (4, .int l4)]) rfl rfl rfl ?_
                    exact jX.sub (jsb_c rfl (jsb_c rfl (jsb_c rfl (jsb_c rfl (jsb_c rfl jsb_n))))) (ct_X12_turnClause_r125_119 hD hQ ih l1 l2 v48 l4 h (jr_of rfl (by omega)) (jr_of rfl (by omega)) (jr_mod rfl (by omega)) (jr_of rfl (by omega)) (jr_of rfl (by omega)) (jtc_n (t := v3) (c := v4) (jcn (jmc S40 rfl qv15) (by omega) (by omega) (by omega)) (by omega) (by omega)) (by omega) J Sm)
set_option maxRecDepth 100000 in
set_option maxHeartbeats 4000000 in
theorem sf_X12_turnClause_r125 {Dy : jH → Prop} {h : jH} {Q : Option Value → jH → Prop} {a1 : Int32} {a2 : Int32} (y1 : 0 ≤ a1.toInt ∧ a1.toInt ≤ 3) (y2 : 0 ≤ a2.toInt ∧ a2.toInt ≤ 146034) (ym2 : a2.toInt % 366 = 0) (hD : jDk Dy) (J : jJ jSgM Dy h) (hQ : ∀ (v : Int32) hx9, (-1) ≤ v.toInt ∧ v.toInt ≤ 359 → jJ jSgM Dy hx9 → jSm fp_X12_turnClause_r125 h hx9 → jTc v hx9 → Q (some (.int v)) hx9) : jC m_X12_turnClause 5 0 0 [.ref 125, .int a1, .int a2] h Q := by
  refine jC.of rfl k_X12_turnClause rfl ?_
  have Sm := jSm_rf fp_X12_turnClause_r125 h
  show jX m_X12_turnClause 5 0 0 0 [(0, .ref 125), (1, .int a1), (2, .int a2)] [] _ 0 0 _
  refine x_iconst (v := (-1)) rfl ki_m1 ?_
  refine x_istoren (lsx9 := [(3, .int (-1)), (0, .ref 125), (1, .int a1), (2, .int a2)]) rfl rfl rfl ?_
  refine x_iconst (v := 0) rfl ki_0 ?_
  refine x_istore (lsx9 := [(4, .int 0), (3, .int (-1)), (0, .ref 125), (1, .int a1), (2, .int a2)]) rfl rfl rfl ?_
  exact jX.sub (jsb_c rfl (jsb_c rfl (jsb_c rfl (jsb_c rfl (jsb_c rfl jsb_n))))) (ct_X12_turnClause_r125_5 hD hQ  721 a1 a2 (-1) 0 h (by have := jk_0; omega) (jr_of rfl (by omega)) (jr_of rfl (by omega)) (jr_mod rfl (by omega)) (jr_of jk_m1 (by omega)) (jr_of jk_0 (by omega)) (Or.inl (by decide)) J Sm)
def fp_X12_findTurns_r125 : jFp := [(125, 32, 33), (125, 33, 34), (125, 34, 35), (125, 35, 36), (125, 57, 58), (125, 61, 62), (125, 62, 63), (125, 63, 64), (152, 0, 360), (153, 0, 30), (154, 0, 400), (162, 0, 40), (162, 40, 80), (163, 0, 40), (163, 40, 80), (164, 0, 40), (168, 0, 400), (169, 0, 400)]
set_option maxRecDepth 100000 in
set_option maxHeartbeats 4000000 in
theorem ct_X12_findTurns_r125_251 {Dy : jH → Prop} {h0 : jH} {Q : Option Value → jH → Prop} {R14 : Int} (hD : jDk Dy) (hQ : ∀ hx9, jJ jSgM Dy hx9 → jSm fp_X12_findTurns_r125 h0 hx9 → Q none hx9) (k14 : ∀ (l1 : Int32) (l2 : Int32) (l3 : Int32) (l4 : Int32) (l5 : Int32) (h : jH), 400 - l5.toInt < R14 → 0 ≤ l1.toInt ∧ l1.toInt ≤ 3 → 0 ≤ l2.toInt ∧ l2.toInt ≤ 399 → 0 ≤ l3.toInt ∧ l3.toInt ≤ 40 → 0 ≤ l4.toInt ∧ l4.toInt ≤ 39 → 0 ≤ l5.toInt ∧ l5.toInt ≤ 400 → jJ jSgM Dy h → jSm fp_X12_findTurns_r125 h0 h → jX m_X12_findTurns 11 0 0 14 [(0, .ref 125), (1, .int l1), (2, .int l2), (3, .int l3), (4, .int l4), (5, .int l5)] [] h 0 0 Q) : ∀ (l1 : Int32) (l2 : Int32) (l3 : Int32) (l4 : Int32) (l5 : Int32) (g0 : Int32) (h : jH), 0 ≤ l1.toInt ∧ l1.toInt ≤ 3 → 0 ≤ l2.toInt ∧ l2.toInt ≤ 399 → 0 ≤ l3.toInt ∧ l3.toInt ≤ 40 → 0 ≤ l4.toInt ∧ l4.toInt ≤ 39 → 0 ≤ l5.toInt ∧ l5.toInt ≤ 399 → (-1) ≤ g0.toInt ∧ g0.toInt ≤ 39 → (g0.toInt = -1 ∨ 1 ≤ l3.toInt) → jiv h 168 l5.toNatClampNeg = g0 → 400 - l5.toInt ≤ R14 → jJ jSgM Dy h → jSm fp_X12_findTurns_r125 h0 h → jX m_X12_findTurns 11 0 0 251 [(0, .ref 125), (1, .int l1), (2, .int l2), (3, .int l3), (4, .int l4), (5, .int l5)] [] h 0 0 Q := by
  intro l1 l2 l3 l4 l5 g0 h y0 y1 y2 y3 y4 y5 y6 z0 m14 J Sm
  refine z_iinc (x := l5) (lsx9 := fun v1 => [(5, .int v1), (0, .ref 125), (1, .int l1), (2, .int l2), (3, .int l3), (4, .int l4)]) rfl rfl rfl jko_1 (by omega) rfl (fun _ => rfl) (fun v1 ev1 => ?_)
  refine x_goto (tgt := 14) rfl rfl ?_
  exact jX.sub (jsb_c rfl (jsb_c rfl (jsb_c rfl (jsb_c rfl (jsb_c rfl (jsb_c rfl jsb_n)))))) (k14 l1 l2 l3 l4 v1 h (by omega) (jr_of rfl (by omega)) (jr_of rfl (by omega)) (jr_of rfl (by omega)) (jr_of rfl (by omega)) (jr_of rfl (by omega)) J Sm)
set_option maxRecDepth 100000 in
set_option maxHeartbeats 4000000 in
theorem ct_X12_findTurns_r125_249 {Dy : jH → Prop} {h0 : jH} {Q : Option Value → jH → Prop} {R14 : Int} (hD : jDk Dy) (hQ : ∀ hx9, jJ jSgM Dy hx9 → jSm fp_X12_findTurns_r125 h0 hx9 → Q none hx9) (k14 : ∀ (l1 : Int32) (l2 : Int32) (l3 : Int32) (l4 : Int32) (l5 : Int32) (h : jH), 400 - l5.toInt < R14 → 0 ≤ l1.toInt ∧ l1.toInt ≤ 3 → 0 ≤ l2.toInt ∧ l2.toInt ≤ 399 → 0 ≤ l3.toInt ∧ l3.toInt ≤ 40 → 0 ≤ l4.toInt ∧ l4.toInt ≤ 39 → 0 ≤ l5.toInt ∧ l5.toInt ≤ 400 → jJ jSgM Dy h → jSm fp_X12_findTurns_r125 h0 h → jX m_X12_findTurns 11 0 0 14 [(0, .ref 125), (1, .int l1), (2, .int l2), (3, .int l3), (4, .int l4), (5, .int l5)] [] h 0 0 Q) : ∀ (l1 : Int32) (l2 : Int32) (l3 : Int32) (l5 : Int32) (s0 : Int32) (g0 : Int32) (h : jH), 0 ≤ l1.toInt ∧ l1.toInt ≤ 3 → 0 ≤ l2.toInt ∧ l2.toInt ≤ 399 → 0 ≤ l3.toInt ∧ l3.toInt ≤ 40 → 0 ≤ l5.toInt ∧ l5.toInt ≤ 399 → 0 ≤ s0.toInt ∧ s0.toInt ≤ 39 → (-1) ≤ g0.toInt ∧ g0.toInt ≤ 39 → (g0.toInt = -1 ∨ 1 ≤ l3.toInt) → jiv h 168 l5.toNatClampNeg = g0 → 400 - l5.toInt ≤ R14 → jJ jSgM Dy h → jSm fp_X12_findTurns_r125 h0 h → jX m_X12_findTurns 11 0 0 249 [(0, .ref 125), (1, .int l1), (2, .int l2), (3, .int l3), (5, .int l5)] [.int s0] h 0 0 Q := by
  intro l1 l2 l3 l5 s0 g0 h y0 y1 y2 y3 y4 y5 y6 z0 m14 J Sm
  refine x_istore (lsx9 := [(4, .int s0), (0, .ref 125), (1, .int l1), (2, .int l2), (3, .int l3), (5, .int l5)]) rfl rfl rfl ?_
  exact jX.sub (jsb_c rfl (jsb_c rfl (jsb_c rfl (jsb_c rfl (jsb_c rfl (jsb_c rfl jsb_n)))))) (ct_X12_findTurns_r125_251 hD hQ k14 l1 l2 l3 s0 l5 g0 h (jr_of rfl (by omega)) (jr_of rfl (by omega)) (jr_of rfl (by omega)) (jr_of rfl (by omega)) (jr_of rfl (by omega)) (jr_of rfl (by omega)) (by omega) z0 (by omega) J Sm)
set_option maxRecDepth 100000 in
set_option maxHeartbeats 4000000 in
theorem ct_X12_findTurns_r125_222 {Dy : jH → Prop} {h0 : jH} {Q : Option Value → jH → Prop} {R14 : Int} (hD : jDk Dy) (hQ : ∀ hx9, jJ jSgM Dy hx9 → jSm fp_X12_findTurns_r125 h0 hx9 → Q none hx9) (k14 : ∀ (l1 : Int32) (l2 : Int32) (l3 : Int32) (l4 : Int32) (l5 : Int32) (h : jH), 400 - l5.toInt < R14 → 0 ≤ l1.toInt ∧ l1.toInt ≤ 3 → 0 ≤ l2.toInt ∧ l2.toInt ≤ 399 → 0 ≤ l3.toInt ∧ l3.toInt ≤ 40 → 0 ≤ l4.toInt ∧ l4.toInt ≤ 39 → 0 ≤ l5.toInt ∧ l5.toInt ≤ 400 → jJ jSgM Dy h → jSm fp_X12_findTurns_r125 h0 h → jX m_X12_findTurns 11 0 0 14 [(0, .ref 125), (1, .int l1), (2, .int l2), (3, .int l3), (4, .int l4), (5, .int l5)] [] h 0 0 Q) : ∀ (l1 : Int32) (l2 : Int32) (l3 : Int32) (l4 : Int32) (l5 : Int32) (g0 : Int32) (h : jH), 0 ≤ l1.toInt ∧ l1.toInt ≤ 3 → 0 ≤ l2.toInt ∧ l2.toInt ≤ 399 → 0 ≤ l3.toInt ∧ l3.toInt ≤ 40 → 0 ≤ l4.toInt ∧ l4.toInt ≤ 39 → 0 ≤ l5.toInt ∧ l5.toInt ≤ 399 → (-1) ≤ g0.toInt ∧ g0.toInt ≤ 39 → (g0.toInt = -1 ∨ 1 ≤ l3.toInt) → jiv h 168 l5.toNatClampNeg = g0 → 400 - l5.toInt ≤ R14 → jJ jSgM Dy h → jSm fp_X12_findTurns_r125 h0 h → jX m_X12_findTurns 11 0 0 222 [(0, .ref 125), (1, .int l1), (2, .int l2), (3, .int l3), (4, .int l4), (5, .int l5)] [] h 0 0 Q := by
  intro l1 l2 l3 l4 l5 g0 h y0 y1 y2 y3 y4 y5 y6 z0 m14 J Sm
  refine x_aloadn (x := 125) rfl rfl ?_
  refine z_getR (N := 92) (b := 168) 12 83 rfl f_12_162 rfl J rfl 16083 ⟨rfl, rfl⟩ rfl ?_
  refine x_iload (x := l5) rfl rfl ?_
  refine z_ialdM (N := 400) (v := g0) rfl J rfl rfl (by omega) z0 ?_
  refine x_iconst (v := (-1)) rfl ki_m1 ?_
  refine x_icne (tgt := 238) rfl rfl (ti_ne rfl jk_m1 ⟨fun c1 => ?_, fun c1 => ?_⟩)
  ·
    refine x_aloadn (x := 125) rfl rfl ?_
    refine z_getR (N := 92) (b := 168) 12 83 rfl f_12_162 rfl J rfl 16083 ⟨rfl, rfl⟩ rfl ?_
    refine x_iload (x := l5) rfl rfl ?_
    refine z_ialdM (N := 400) (v := g0) rfl J rfl rfl (by omega) z0 ?_
    refine x_iconst (v := 1) rfl ki_1 ?_
    refine z_iadd rfl rfl jk_1 (by omega) (fun v2 ev2 => ?_)
    refine x_iloadn (x := l3) rfl rfl ?_
    refine z_iremb rfl rfl rfl (by omega) (by omega) (fun v3 ev3 => ?_)
    exact jX.sub (jsb_c rfl (jsb_c rfl (jsb_c rfl (jsb_c rfl (jsb_c rfl jsb_n))))) (ct_X12_findTurns_r125_249 hD hQ k14 l1 l2 l3 l5 v3 g0 h (jr_of rfl (by omega)) (jr_of rfl (by omega)) (jr_of rfl (by omega)) (jr_of rfl (by omega)) (jr_of rfl (by omega)) (jr_of rfl (by omega)) (by omega) z0 (by omega) J Sm)
  ·
    refine x_iload (x := l4) rfl rfl ?_
    refine x_goto (tgt := 249) rfl rfl ?_
    exact jX.sub (jsb_c rfl (jsb_c rfl (jsb_c rfl (jsb_c rfl (jsb_c rfl jsb_n))))) (ct_X12_findTurns_r125_249 hD hQ k14 l1 l2 l3 l5 l4 g0 h (jr_of rfl (by omega)) (jr_of rfl (by omega)) (jr_of rfl (by omega)) (jr_of rfl (by omega)) (jr_of rfl (by omega)) (jr_of rfl (by omega)) (by omega) z0 (by omega) J Sm)
set_option maxRecDepth 100000 in
set_option maxHeartbeats 4000000 in
theorem ct_X12_findTurns_r125_216 {Dy : jH → Prop} {h0 : jH} {Q : Option Value → jH → Prop} {R14 : Int} {R72 : Int} (hD : jDk Dy) (hQ : ∀ hx9, jJ jSgM Dy hx9 → jSm fp_X12_findTurns_r125 h0 hx9 → Q none hx9) (k14 : ∀ (l1 : Int32) (l2 : Int32) (l3 : Int32) (l4 : Int32) (l5 : Int32) (h : jH), 400 - l5.toInt < R14 → 0 ≤ l1.toInt ∧ l1.toInt ≤ 3 → 0 ≤ l2.toInt ∧ l2.toInt ≤ 399 → 0 ≤ l3.toInt ∧ l3.toInt ≤ 40 → 0 ≤ l4.toInt ∧ l4.toInt ≤ 39 → 0 ≤ l5.toInt ∧ l5.toInt ≤ 400 → jJ jSgM Dy h → jSm fp_X12_findTurns_r125 h0 h → jX m_X12_findTurns 11 0 0 14 [(0, .ref 125), (1, .int l1), (2, .int l2), (3, .int l3), (4, .int l4), (5, .int l5)] [] h 0 0 Q) (k72 : ∀ (l1 : Int32) (l2 : Int32) (l3 : Int32) (l4 : Int32) (l5 : Int32) (l6 : Int32) (l7 : Int32) (l8 : Int32) (g0 : Int32) (h : jH), 40 - l8.toInt < R72 → 0 ≤ l1.toInt ∧ l1.toInt ≤ 3 → 0 ≤ l2.toInt ∧ l2.toInt ≤ 399 → 0 ≤ l3.toInt ∧ l3.toInt ≤ 40 → 0 ≤ l4.toInt ∧ l4.toInt ≤ 39 → 0 ≤ l5.toInt ∧ l5.toInt ≤ 399 → 0 ≤ l6.toInt ∧ l6.toInt ≤ 146034 → l6.toInt % 366 = 0 → 0 ≤ l7.toInt ∧ l7.toInt ≤ 359 → 0 ≤ l8.toInt ∧ l8.toInt ≤ 40 → (-1) ≤ g0.toInt ∧ g0.toInt ≤ 39 → jTc l7 h → (g0.toInt = -1 ∨ 1 ≤ l3.toInt) → jiv h 168 l5.toNatClampNeg = g0 → 400 - l5.toInt ≤ R14 → jJ jSgM Dy h → jSm fp_X12_findTurns_r125 h0 h → jX m_X12_findTurns 11 0 0 72 [(0, .ref 125), (1, .int l1), (2, .int l2), (3, .int l3), (4, .int l4), (5, .int l5), (6, .int l6), (7, .int l7), (8, .int l8)] [] h 0 0 Q) : ∀ (l1 : Int32) (l2 : Int32) (l3 : Int32) (l4 : Int32) (l5 : Int32) (l6 : Int32) (l7 : Int32) (l8 : Int32) (g0 : Int32) (h : jH), 0 ≤ l1.toInt ∧ l1.toInt ≤ 3 → 0 ≤ l2.toInt ∧ l2.toInt ≤ 399 → 1 ≤ l3.toInt ∧ l3.toInt ≤ 40 → 0 ≤ l4.toInt ∧ l4.toInt ≤ 39 → 0 ≤ l5.toInt ∧ l5.toInt ≤ 399 → 0 ≤ l6.toInt ∧ l6.toInt ≤ 146034 → l6.toInt % 366 = 0 → 0 ≤ l7.toInt ∧ l7.toInt ≤ 359 → 0 ≤ l8.toInt ∧ l8.toInt ≤ 39 → (-1) ≤ g0.toInt ∧ g0.toInt ≤ 39 → jTc l7 h → (g0.toInt = -1 ∨ 1 ≤ l3.toInt) → jiv h 168 l5.toNatClampNeg = g0 → 400 - l5.toInt ≤ R14 → 40 - l8.toInt ≤ R72 → jJ jSgM Dy h → jSm fp_X12_findTurns_r125 h0 h → jX m_X12_findTurns 11 0 0 216 [(0, .ref 125), (1, .int l1), (2, .int l2), (3, .int l3), (4, .int l4), (5, .int l5), (6, .int l6), (7, .int l7), (8, .int l8)] [] h 0 0 Q := by
  intro l1 l2 l3 l4 l5 l6 l7 l8 g0 h y0 y1 y2 y3 y4 y5 y6 y7 y8 y9 C0 y11 z0 m14 m72 J Sm
  refine z_iinc (x := l8) (lsx9 := fun v1 => [(8, .int v1), (0, .ref 125), (1, .int l1), (2, .int l2), (3, .int l3), (4, .int l4), (5, .int l5), (6, .int l6), (7, .int l7)]) rfl rfl rfl jko_1 (by omega) rfl (fun _ => rfl) (fun v1 ev1 => ?_)
  refine x_goto (tgt := 72) rfl rfl ?_
  exact jX.sub (jsb_c rfl (jsb_c rfl (jsb_c rfl (jsb_c rfl (jsb_c rfl (jsb_c rfl (jsb_c rfl (jsb_c rfl (jsb_c rfl jsb_n))))))))) (k72 l1 l2 l3 l4 l5 l6 l7 v1 g0 h (by omega) (jr_of rfl (by omega)) (jr_of rfl (by omega)) (jr_of rfl (by omega)) (jr_of rfl (by omega)) (jr_of rfl (by omega)) (jr_of rfl (by omega)) (jr_mod rfl (by omega)) (jr_of rfl (by omega)) (jr_of rfl (by omega)) (jr_of rfl (by omega)) C0 (by omega) z0 (by omega) J Sm)
set_option maxRecDepth 100000 in
set_option maxHeartbeats 4000000 in
theorem ct_X12_findTurns_r125_300186 {Dy : jH → Prop} {h0 : jH} {Q : Option Value → jH → Prop} {R14 : Int} {R72 : Int} (hD : jDk Dy) (hQ : ∀ hx9, jJ jSgM Dy hx9 → jSm fp_X12_findTurns_r125 h0 hx9 → Q none hx9) (k14 : ∀ (l1 : Int32) (l2 : Int32) (l3 : Int32) (l4 : Int32) (l5 : Int32) (h : jH), 400 - l5.toInt < R14 → 0 ≤ l1.toInt ∧ l1.toInt ≤ 3 → 0 ≤ l2.toInt ∧ l2.toInt ≤ 399 → 0 ≤ l3.toInt ∧ l3.toInt ≤ 40 → 0 ≤ l4.toInt ∧ l4.toInt ≤ 39 → 0 ≤ l5.toInt ∧ l5.toInt ≤ 400 → jJ jSgM Dy h → jSm fp_X12_findTurns_r125 h0 h → jX m_X12_findTurns 11 0 0 14 [(0, .ref 125), (1, .int l1), (2, .int l2), (3, .int l3), (4, .int l4), (5, .int l5)] [] h 0 0 Q) (k72 : ∀ (l1 : Int32) (l2 : Int32) (l3 : Int32) (l4 : Int32) (l5 : Int32) (l6 : Int32) (l7 : Int32) (l8 : Int32) (g0 : Int32) (h : jH), 40 - l8.toInt < R72 → 0 ≤ l1.toInt ∧ l1.toInt ≤ 3 → 0 ≤ l2.toInt ∧ l2.toInt ≤ 399 → 0 ≤ l3.toInt ∧ l3.toInt ≤ 40 → 0 ≤ l4.toInt ∧ l4.toInt ≤ 39 → 0 ≤ l5.toInt ∧ l5.toInt ≤ 399 → 0 ≤ l6.toInt ∧ l6.toInt ≤ 146034 → l6.toInt % 366 = 0 → 0 ≤ l7.toInt ∧ l7.toInt ≤ 359 → 0 ≤ l8.toInt ∧ l8.toInt ≤ 40 → (-1) ≤ g0.toInt ∧ g0.toInt ≤ 39 → jTc l7 h → (g0.toInt = -1 ∨ 1 ≤ l3.toInt) → jiv h 168 l5.toNatClampNeg = g0 → 400 - l5.toInt ≤ R14 → jJ jSgM Dy h → jSm fp_X12_findTurns_r125 h0 h → jX m_X12_findTurns 11 0 0 72 [(0, .ref 125), (1, .int l1), (2, .int l2), (3, .int l3), (4, .int l4), (5, .int l5), (6, .int l6), (7, .int l7), (8, .int l8)] [] h 0 0 Q) : ∀ (l1 : Int32) (l2 : Int32) (l3 : Int32) (l4 : Int32) (l5 : Int32) (l6 : Int32) (l7 : Int32) (l8 : Int32) (l9 : Int32) (g0 : Int32) (h : jH), 0 ≤ l1.toInt ∧ l1.toInt ≤ 3 → 0 ≤ l2.toInt ∧ l2.toInt ≤ 399 → 1 ≤ l3.toInt ∧ l3.toInt ≤ 40 → 0 ≤ l4.toInt ∧ l4.toInt ≤ 39 → 0 ≤ l5.toInt ∧ l5.toInt ≤ 399 → 0 ≤ l6.toInt ∧ l6.toInt ≤ 146034 → l6.toInt % 366 = 0 → 0 ≤ l7.toInt ∧ l7.toInt ≤ 359 → 0 ≤ l8.toInt ∧ l8.toInt ≤ 39 → 0 ≤ l9.toInt ∧ l9.toInt ≤ 39 → (-1) ≤ g0.toInt ∧ g0.toInt ≤ (-1) → jTc l7 h → (g0.toInt = -1 ∨ 1 ≤ l3.toInt) → jiv h 168 l5.toNatClampNeg = g0 → 400 - l5.toInt ≤ R14 → 40 - l8.toInt ≤ R72 → jJ jSgM Dy h → jSm fp_X12_findTurns_r125 h0 h → jX m_X12_findTurns 11 0 0 186 [(0, .ref 125), (1, .int l1), (2, .int l2), (3, .int l3), (4, .int l4), (5, .int l5), (6, .int l6), (7, .int l7), (8, .int l8), (9, .int l9)] [.int 1] h 0 0 Q := by
  intro l1 l2 l3 l4 l5 l6 l7 l8 l9 g0 h y0 y1 y2 y3 y4 y5 y6 y7 y8 y9 y10 C0 y12 z0 m14 m72 J Sm
  refine x_istore (lsx9 := [(11, .int 1), (0, .ref 125), (1, .int l1), (2, .int l2), (3, .int l3), (4, .int l4), (5, .int l5), (6, .int l6), (7, .int l7), (8, .int l8), (9, .int l9)]) rfl rfl rfl ?_
  refine x_iload (x := 1) rfl rfl ?_
  refine x_ifeq (tgt := 205) rfl rfl (ti_eq jk_1 jk_0 (br_f (by omega) ?_))
  refine x_aloadn (x := 125) rfl rfl ?_
  refine z_getR (N := 92) (b := 168) 12 83 rfl f_12_162 rfl J rfl 16083 ⟨rfl, rfl⟩ rfl ?_
  refine x_iload (x := l5) rfl rfl ?_
  refine x_iload (x := l9) rfl rfl ?_
  refine z_iast (N := 400) (l := 0) (u := 400) (w := l9.toInt) rfl hD J Sm rfl rfl rfl (by omega) rfl (wr_168 (fun q1 q2 q3 q4 => by omega)) rfl (fun h w1 J Sm => ?_)
  refine x_goto (tgt := 216) rfl rfl ?_
  exact jX.sub (jsb_c rfl (jsb_c rfl (jsb_c rfl (jsb_c rfl (jsb_c rfl (jsb_c rfl (jsb_c rfl (jsb_c rfl (jsb_c rfl jsb_n))))))))) (ct_X12_findTurns_r125_216 hD hQ k14 k72 l1 l2 l3 l4 l5 l6 l7 l8 l9 h (jr_of rfl (by omega)) (jr_of rfl (by omega)) (jr_of rfl (by omega)) (jr_of rfl (by omega)) (jr_of rfl (by omega)) (jr_of rfl (by omega)) (jr_mod rfl (by omega)) (jr_of rfl (by omega)) (jr_of rfl (by omega)) (jr_of rfl (by omega)) (jtc_e (jeq_o w1 rfl jeq_0) C0) (by omega) (jmw w1) (by omega) (by omega) J Sm)
set_option maxRecDepth 100000 in
set_option maxHeartbeats 4000000 in
theorem ct_X12_findTurns_r125_200186 {Dy : jH → Prop} {h0 : jH} {Q : Option Value → jH → Prop} {R14 : Int} {R72 : Int} (hD : jDk Dy) (hQ : ∀ hx9, jJ jSgM Dy hx9 → jSm fp_X12_findTurns_r125 h0 hx9 → Q none hx9) (k14 : ∀ (l1 : Int32) (l2 : Int32) (l3 : Int32) (l4 : Int32) (l5 : Int32) (h : jH), 400 - l5.toInt < R14 → 0 ≤ l1.toInt ∧ l1.toInt ≤ 3 → 0 ≤ l2.toInt ∧ l2.toInt ≤ 399 → 0 ≤ l3.toInt ∧ l3.toInt ≤ 40 → 0 ≤ l4.toInt ∧ l4.toInt ≤ 39 → 0 ≤ l5.toInt ∧ l5.toInt ≤ 400 → jJ jSgM Dy h → jSm fp_X12_findTurns_r125 h0 h → jX m_X12_findTurns 11 0 0 14 [(0, .ref 125), (1, .int l1), (2, .int l2), (3, .int l3), (4, .int l4), (5, .int l5)] [] h 0 0 Q) (k72 : ∀ (l1 : Int32) (l2 : Int32) (l3 : Int32) (l4 : Int32) (l5 : Int32) (l6 : Int32) (l7 : Int32) (l8 : Int32) (g0 : Int32) (h : jH), 40 - l8.toInt < R72 → 0 ≤ l1.toInt ∧ l1.toInt ≤ 3 → 0 ≤ l2.toInt ∧ l2.toInt ≤ 399 → 0 ≤ l3.toInt ∧ l3.toInt ≤ 40 → 0 ≤ l4.toInt ∧ l4.toInt ≤ 39 → 0 ≤ l5.toInt ∧ l5.toInt ≤ 399 → 0 ≤ l6.toInt ∧ l6.toInt ≤ 146034 → l6.toInt % 366 = 0 → 0 ≤ l7.toInt ∧ l7.toInt ≤ 359 → 0 ≤ l8.toInt ∧ l8.toInt ≤ 40 → (-1) ≤ g0.toInt ∧ g0.toInt ≤ 39 → jTc l7 h → (g0.toInt = -1 ∨ 1 ≤ l3.toInt) → jiv h 168 l5.toNatClampNeg = g0 → 400 - l5.toInt ≤ R14 → jJ jSgM Dy h → jSm fp_X12_findTurns_r125 h0 h → jX m_X12_findTurns 11 0 0 72 [(0, .ref 125), (1, .int l1), (2, .int l2), (3, .int l3), (4, .int l4), (5, .int l5), (6, .int l6), (7, .int l7), (8, .int l8)] [] h 0 0 Q) : ∀ (l1 : Int32) (l2 : Int32) (l3 : Int32) (l4 : Int32) (l5 : Int32) (l6 : Int32) (l7 : Int32) (l8 : Int32) (l9 : Int32) (g0 : Int32) (h : jH), 0 ≤ l1.toInt ∧ l1.toInt ≤ 3 → 0 ≤ l2.toInt ∧ l2.toInt ≤ 399 → 1 ≤ l3.toInt ∧ l3.toInt ≤ 40 → 0 ≤ l4.toInt ∧ l4.toInt ≤ 39 → 0 ≤ l5.toInt ∧ l5.toInt ≤ 399 → 0 ≤ l6.toInt ∧ l6.toInt ≤ 146034 → l6.toInt % 366 = 0 → 0 ≤ l7.toInt ∧ l7.toInt ≤ 359 → 0 ≤ l8.toInt ∧ l8.toInt ≤ 39 → 0 ≤ l9.toInt ∧ l9.toInt ≤ 39 → (-1) ≤ g0.toInt ∧ g0.toInt ≤ (-1) → jTc l7 h → (g0.toInt = -1 ∨ 1 ≤ l3.toInt) → jiv h 168 l5.toNatClampNeg = g0 → 400 - l5.toInt ≤ R14 → 40 - l8.toInt ≤ R72 → jJ jSgM Dy h → jSm fp_X12_findTurns_r125 h0 h → jX m_X12_findTurns 11 0 0 186 [(0, .ref 125), (1, .int l1), (2, .int l2), (3, .int l3), (4, .int l4), (5, .int l5), (6, .int l6), (7, .int l7), (8, .int l8), (9, .int l9)] [.int 0] h 0 0 Q := by
  intro l1 l2 l3 l4 l5 l6 l7 l8 l9 g0 h y0 y1 y2 y3 y4 y5 y6 y7 y8 y9 y10 C0 y12 z0 m14 m72 J Sm
  refine x_istore (lsx9 := [(11, .int 0), (0, .ref 125), (1, .int l1), (2, .int l2), (3, .int l3), (4, .int l4), (5, .int l5), (6, .int l6), (7, .int l7), (8, .int l8), (9, .int l9)]) rfl rfl rfl ?_
  refine x_iload (x := 0) rfl rfl ?_
  refine x_ifeq (tgt := 205) rfl rfl (ti_eq jk_0 jk_0 (br_t (by omega) ?_))
  refine x_aloadn (x := 125) rfl rfl ?_
  refine z_getR (N := 92) (b := 169) 12 84 rfl f_12_165 rfl J rfl 16084 ⟨rfl, rfl⟩ rfl ?_
  refine x_iload (x := l5) rfl rfl ?_
  refine x_dup2 rfl rfl rfl ?_
  refine z_iald0 (N := 400) rfl J rfl rfl (by omega) (fun v1 qv1 => ?_)
  have ev1 := jfull v1
  refine x_iconst (v := 1) rfl ki_1 ?_
  refine z_iadd0 rfl (fun v2 => ?_)
  have ev2 := jfull v2
  refine z_iast (N := 400) (l := 0) (u := 400) (w := v2.toInt) rfl hD J Sm rfl rfl rfl (by omega) rfl (wr_169) rfl (fun h w3 J Sm => ?_)
  exact jX.sub (jsb_c rfl (jsb_c rfl (jsb_c rfl (jsb_c rfl (jsb_c rfl (jsb_c rfl (jsb_c rfl (jsb_c rfl (jsb_c rfl jsb_n))))))))) (ct_X12_findTurns_r125_216 hD hQ k14 k72 l1 l2 l3 l4 l5 l6 l7 l8 g0 h (jr_of rfl (by omega)) (jr_of rfl (by omega)) (jr_of rfl (by omega)) (jr_of rfl (by omega)) (jr_of rfl (by omega)) (jr_of rfl (by omega)) (jr_mod rfl (by omega)) (jr_of rfl (by omega)) (jr_of rfl (by omega)) (jr_of rfl (by omega)) (jtc_e (jeq_o w3 rfl jeq_0) C0) (by omega) (jmo w3 rfl z0) (by omega) (by omega) J Sm)
set_option maxRecDepth 100000 in
set_option maxHeartbeats 4000000 in
theorem ct_X12_findTurns_r125_185 {Dy : jH → Prop} {h0 : jH} {Q : Option Value → jH → Prop} {R14 : Int} {R72 : Int} (hD : jDk Dy) (hQ : ∀ hx9, jJ jSgM Dy hx9 → jSm fp_X12_findTurns_r125 h0 hx9 → Q none hx9) (k14 : ∀ (l1 : Int32) (l2 : Int32) (l3 : Int32) (l4 : Int32) (l5 : Int32) (h : jH), 400 - l5.toInt < R14 → 0 ≤ l1.toInt ∧ l1.toInt ≤ 3 → 0 ≤ l2.toInt ∧ l2.toInt ≤ 399 → 0 ≤ l3.toInt ∧ l3.toInt ≤ 40 → 0 ≤ l4.toInt ∧ l4.toInt ≤ 39 → 0 ≤ l5.toInt ∧ l5.toInt ≤ 400 → jJ jSgM Dy h → jSm fp_X12_findTurns_r125 h0 h → jX m_X12_findTurns 11 0 0 14 [(0, .ref 125), (1, .int l1), (2, .int l2), (3, .int l3), (4, .int l4), (5, .int l5)] [] h 0 0 Q) (k72 : ∀ (l1 : Int32) (l2 : Int32) (l3 : Int32) (l4 : Int32) (l5 : Int32) (l6 : Int32) (l7 : Int32) (l8 : Int32) (g0 : Int32) (h : jH), 40 - l8.toInt < R72 → 0 ≤ l1.toInt ∧ l1.toInt ≤ 3 → 0 ≤ l2.toInt ∧ l2.toInt ≤ 399 → 0 ≤ l3.toInt ∧ l3.toInt ≤ 40 → 0 ≤ l4.toInt ∧ l4.toInt ≤ 39 → 0 ≤ l5.toInt ∧ l5.toInt ≤ 399 → 0 ≤ l6.toInt ∧ l6.toInt ≤ 146034 → l6.toInt % 366 = 0 → 0 ≤ l7.toInt ∧ l7.toInt ≤ 359 → 0 ≤ l8.toInt ∧ l8.toInt ≤ 40 → (-1) ≤ g0.toInt ∧ g0.toInt ≤ 39 → jTc l7 h → (g0.toInt = -1 ∨ 1 ≤ l3.toInt) → jiv h 168 l5.toNatClampNeg = g0 → 400 - l5.toInt ≤ R14 → jJ jSgM Dy h → jSm fp_X12_findTurns_r125 h0 h → jX m_X12_findTurns 11 0 0 72 [(0, .ref 125), (1, .int l1), (2, .int l2), (3, .int l3), (4, .int l4), (5, .int l5), (6, .int l6), (7, .int l7), (8, .int l8)] [] h 0 0 Q) : ∀ (l1 : Int32) (l2 : Int32) (l3 : Int32) (l4 : Int32) (l5 : Int32) (l6 : Int32) (l7 : Int32) (l8 : Int32) (l9 : Int32) (g0 : Int32) (h : jH), 0 ≤ l1.toInt ∧ l1.toInt ≤ 3 → 0 ≤ l2.toInt ∧ l2.toInt ≤ 399 → 1 ≤ l3.toInt ∧ l3.toInt ≤ 40 → 0 ≤ l4.toInt ∧ l4.toInt ≤ 39 → 0 ≤ l5.toInt ∧ l5.toInt ≤ 399 → 0 ≤ l6.toInt ∧ l6.toInt ≤ 146034 → l6.toInt % 366 = 0 → 0 ≤ l7.toInt ∧ l7.toInt ≤ 359 → 0 ≤ l8.toInt ∧ l8.toInt ≤ 39 → 0 ≤ l9.toInt ∧ l9.toInt ≤ 39 → (-1) ≤ g0.toInt ∧ g0.toInt ≤ (-1) → jTc l7 h → (g0.toInt = -1 ∨ 1 ≤ l3.toInt) → jiv h 168 l5.toNatClampNeg = g0 → 400 - l5.toInt ≤ R14 → 40 - l8.toInt ≤ R72 → jJ jSgM Dy h → jSm fp_X12_findTurns_r125 h0 h → jX m_X12_findTurns 11 0 0 185 [(0, .ref 125), (1, .int l1), (2, .int l2), (3, .int l3), (4, .int l4), (5, .int l5), (6, .int l6), (7, .int l7), (8, .int l8), (9, .int l9)] [] h 0 0 Q := by
  intro l1 l2 l3 l4 l5 l6 l7 l8 l9 g0 h y0 y1 y2 y3 y4 y5 y6 y7 y8 y9 y10 C0 y12 z0 m14 m72 J Sm
  refine x_iconst (v := 0) rfl ki_0 ?_
  exact jX.sub (jsb_c rfl (jsb_c rfl (jsb_c rfl (jsb_c rfl (jsb_c rfl (jsb_c rfl (jsb_c rfl (jsb_c rfl (jsb_c rfl (jsb_c rfl jsb_n)))))))))) (ct_X12_findTurns_r125_200186 hD hQ k14 k72 l1 l2 l3 l4 l5 l6 l7 l8 l9 g0 h (jr_of rfl (by omega)) (jr_of rfl (by omega)) (jr_of rfl (by omega)) (jr_of rfl (by omega)) (jr_of rfl (by omega)) (jr_of rfl (by omega)) (jr_mod rfl (by omega)) (jr_of rfl (by omega)) (jr_of rfl (by omega)) (jr_of rfl (by omega)) (jr_of rfl (by omega)) C0 (by omega) z0 (by omega) (by omega) J Sm)
set_option maxRecDepth 100000 in
set_option maxHeartbeats 4000000 in
theorem ct_X12_findTurns_r125_72 {Dy : jH → Prop} {h0 : jH} {Q : Option Value → jH → Prop} {R14 : Int} (hD : jDk Dy) (hQ : ∀ hx9, jJ jSgM Dy hx9 → jSm fp_X12_findTurns_r125 h0 hx9 → Q none hx9) (k14 : ∀ (l1 : Int32) (l2 : Int32) (l3 : Int32) (l4 : Int32) (l5 : Int32) (h : jH), 400 - l5.toInt < R14 → 0 ≤ l1.toInt ∧ l1.toInt ≤ 3 → 0 ≤ l2.toInt ∧ l2.toInt ≤ 399 → 0 ≤ l3.toInt ∧ l3.toInt ≤ 40 → 0 ≤ l4.toInt ∧ l4.toInt ≤ 39 → 0 ≤ l5.toInt ∧ l5.toInt ≤ 400 → jJ jSgM Dy h → jSm fp_X12_findTurns_r125 h0 h → jX m_X12_findTurns 11 0 0 14 [(0, .ref 125), (1, .int l1), (2, .int l2), (3, .int l3), (4, .int l4), (5, .int l5)] [] h 0 0 Q) : ∀ r : Nat, ∀ (l1 : Int32) (l2 : Int32) (l3 : Int32) (l4 : Int32) (l5 : Int32) (l6 : Int32) (l7 : Int32) (l8 : Int32) (g0 : Int32) (h : jH), 40 - l8.toInt < (r : Int) → 0 ≤ l1.toInt ∧ l1.toInt ≤ 3 → 0 ≤ l2.toInt ∧ l2.toInt ≤ 399 → 0 ≤ l3.toInt ∧ l3.toInt ≤ 40 → 0 ≤ l4.toInt ∧ l4.toInt ≤ 39 → 0 ≤ l5.toInt ∧ l5.toInt ≤ 399 → 0 ≤ l6.toInt ∧ l6.toInt ≤ 146034 → l6.toInt % 366 = 0 → 0 ≤ l7.toInt ∧ l7.toInt ≤ 359 → 0 ≤ l8.toInt ∧ l8.toInt ≤ 40 → (-1) ≤ g0.toInt ∧ g0.toInt ≤ 39 → jTc l7 h → (g0.toInt = -1 ∨ 1 ≤ l3.toInt) → jiv h 168 l5.toNatClampNeg = g0 → 400 - l5.toInt ≤ R14 → jJ jSgM Dy h → jSm fp_X12_findTurns_r125 h0 h → jX m_X12_findTurns 11 0 0 72 [(0, .ref 125), (1, .int l1), (2, .int l2), (3, .int l3), (4, .int l4), (5, .int l5), (6, .int l6), (7, .int l7), (8, .int l8)] [] h 0 0 Q := by
  intro r
  induction r with
  | zero =>
    intro l1 l2 l3 l4 l5 l6 l7 l8 g0 h hm y0 y1 y2 y3 y4 y5 y6 y7 y8 y9 C0 y11 z0 m14 J Sm
    exfalso
    omega
  | succ r ih =>
    intro l1 l2 l3 l4 l5 l6 l7 l8 g0 h hm y0 y1 y2 y3 y4 y5 y6 y7 y8 y9 C0 y11 z0 m14 J Sm
    refine x_iload (x := l8) rfl rfl ?_
    refine x_iloadn (x := l3) rfl rfl ?_
    refine x_icge (tgt := 222) rfl rfl (ti_ge rfl rfl ⟨fun c1 => ?_, fun c1 => ?_⟩)
    ·
      exact jX.sub (jsb_c rfl (jsb_c rfl (jsb_c rfl (jsb_c rfl (jsb_c rfl (jsb_c rfl jsb_n)))))) (ct_X12_findTurns_r125_222 hD hQ k14 l1 l2 l3 l4 l5 g0 h (jr_of rfl (by omega)) (jr_of rfl (by omega)) (jr_of rfl (by omega)) (jr_of rfl (by omega)) (jr_of rfl (by omega)) (jr_of rfl (by omega)) (by omega) z0 (by omega) J Sm)
    ·
      refine x_aloadn (x := 125) rfl rfl ?_
      refine z_getR (N := 92) (b := 168) 12 83 rfl f_12_162 rfl J rfl 16083 ⟨rfl, rfl⟩ rfl ?_
      refine x_iload (x := l5) rfl rfl ?_
      refine z_ialdM (N := 400) (v := g0) rfl J rfl rfl (by omega) z0 ?_
      refine x_iconst (v := (-1)) rfl ki_m1 ?_
      refine x_icne (tgt := 222) rfl rfl (ti_ne rfl jk_m1 ⟨fun c2 => ?_, fun c2 => ?_⟩)
      ·
        exact jX.sub (jsb_c rfl (jsb_c rfl (jsb_c rfl (jsb_c rfl (jsb_c rfl (jsb_c rfl jsb_n)))))) (ct_X12_findTurns_r125_222 hD hQ k14 l1 l2 l3 l4 l5 g0 h (jr_of rfl (by omega)) (jr_of rfl (by omega)) (jr_of rfl (by omega)) (jr_of rfl (by omega)) (jr_of rfl (by omega)) (jr_of rfl (by omega)) (by omega) z0 (by omega) J Sm)
      ·
        refine x_iload (x := l4) rfl rfl ?_
        refine x_iload (x := l8) rfl rfl ?_
        refine z_iadd rfl rfl rfl (by omega) (fun v3 ev3 => ?_)
        refine x_iloadn (x := l3) rfl rfl ?_
        refine z_iremb rfl rfl rfl (by omega) (by omega) (fun v4 ev4 => ?_)
        refine x_istore (lsx9 := [(9, .int v4), (0, .ref 125), (1, .int l1), (2, .int l2), (3, .int l3), (4, .int l4), (5, .int l5), (6, .int l6), (7, .int l7), (8, .int l8)]) rfl rfl rfl ?_
        refine x_aloadn (x := 125) rfl rfl ?_
        refine z_getR (N := 92) (b := 163) 12 78 rfl f_12_147 rfl J rfl 16078 ⟨rfl, rfl⟩ rfl ?_
        refine x_bipush (v := 40) rfl kb_40 ?_
        refine x_iload (x := v4) rfl rfl ?_
        refine z_iadd rfl jk_40 rfl (by omega) (fun v5 ev5 => ?_)
        refine z_iald (N := 80) rfl J rfl sg_163_0_80_1_0_1 rfl (by omega) (fun v6 qv6 ev6 => ?_)
        refine x_istore (lsx9 := [(10, .int v6), (9, .int v4), (0, .ref 125), (1, .int l1), (2, .int l2), (3, .int l3), (4, .int l4), (5, .int l5), (6, .int l6), (7, .int l7), (8, .int l8)]) rfl rfl rfl ?_
        refine x_iload (x := v6) rfl rfl ?_
        refine x_iconst (v := (-1)) rfl ki_m1 ?_
        refine x_iceq (tgt := 185) rfl rfl (ti_eq rfl jk_m1 ⟨fun c7 => ?_, fun c7 => ?_⟩)
        ·
          exact jX.sub (jsb_c rfl (jsb_c rfl (jsb_c rfl (jsb_c rfl (jsb_c rfl (jsb_c rfl (jsb_c rfl (jsb_c rfl (jsb_c rfl (jsb_c rfl jsb_n)))))))))) (ct_X12_findTurns_r125_185 hD hQ k14 ih l1 l2 l3 l4 l5 l6 l7 l8 v4 g0 h (jr_of rfl (by omega)) (jr_of rfl (by omega)) (jr_of rfl (by omega)) (jr_of rfl (by omega)) (jr_of rfl (by omega)) (jr_of rfl (by omega)) (jr_mod rfl (by omega)) (jr_of rfl (by omega)) (jr_of rfl (by omega)) (jr_of rfl (by omega)) (jr_of rfl (by omega)) C0 (by omega) z0 (by omega) (by omega) J Sm)
        ·
          refine x_aloadn (x := 125) rfl rfl ?_
          refine x_iload (x := v6) rfl rfl ?_
          refine x_iconst (v := 5) rfl ki_5 ?_
          refine x_iload (x := l6) rfl rfl ?_
          refine x_inv (N := m_X12_hasPart) (As := [.int v6, .int 5, .int l6]) (b := 125) (st := []) (dx9 := 10) (mc := 0) (ms := 0) (host := "") 12 rfl t_X12_hasPart ⟨Or.inl q_12_691, i_X12_hasPart.1, i_X12_hasPart.2⟩ ⟨by decide, rfl⟩ (congrArg Prod.fst (J.1.1 125 (12, 92) rfl)) rfl (by decide) rfl rfl ⟨by decide, by decide⟩ (jC.of rfl k_X12_hasPart rfl ?_)
          show jX m_X12_hasPart 10 0 0 0 [(0, .ref 125), (1, .int v6), (2, .int 5), (3, .int l6)] [] _ 0 0 _
          refine x_aloadn (x := 125) rfl rfl ?_
          refine x_iloadn (x := v6) rfl rfl ?_
          refine x_iloadn (x := 5) rfl rfl ?_
          refine x_iloadn (x := l6) rfl rfl ?_
          refine x_inv (N := m_X12_mentionOf) (As := [.int v6, .int 5, .int l6]) (b := 125) (st := []) (dx9 := 4) (mc := 0) (ms := 0) (host := "") 12 rfl t_X12_mentionOf ⟨Or.inl q_12_405, i_X12_mentionOf.1, i_X12_mentionOf.2⟩ ⟨by decide, rfl⟩ (congrArg Prod.fst (J.1.1 125 (12, 92) rfl)) rfl (by decide) rfl rfl ⟨by decide, by decide⟩ (sf_X12_mentionOf_r125 (jr_of rfl (by omega)) (jr_of jk_5 (by omega)) (jr_of rfl (by omega)) hD J  (fun v9 h ev9 J S8 => ?_))
          have Sm := jSm_tr rfl Sm S8
          show jX m_X12_hasPart 10 0 0 7 [(0, .ref 125), (1, .int v6), (2, .int 5), (3, .int l6)] [.int v9] _ 0 0 _
          refine x_iconst (v := (-1)) rfl ki_m1 ?_
          refine x_iceq (tgt := 15) rfl rfl (ti_eq rfl jk_m1 ⟨fun c10 => ?_, fun c10 => ?_⟩)
          ·
            refine x_iconst (v := 0) rfl ki_0 ?_
            refine x_zret rfl rfl (by decide) ?_
            show jX m_X12_findTurns 11 0 0 125 [(10, .int v6), (9, .int v4), (0, .ref 125), (1, .int l1), (2, .int l2), (3, .int l3), (4, .int l4), (5, .int l5), (6, .int l6), (7, .int l7), (8, .int l8)] [.int 0] _ 0 0 _
            refine x_ifne (tgt := 185) rfl rfl (ti_ne jk_0 jk_0 (bn_f (by omega) ?_))
            refine x_aloadn (x := 125) rfl rfl ?_
            refine x_iload (x := v4) rfl rfl ?_
            refine x_iload (x := l5) rfl rfl ?_
            refine x_aloadn (x := 125) rfl rfl ?_
            refine z_getR (N := 92) (b := 126) 12 2 rfl f_12_8 rfl J rfl 16002 ⟨rfl, rfl⟩ rfl ?_
            refine x_aloadn (x := 125) rfl rfl ?_
            refine x_iload (x := l7) rfl rfl ?_
            refine x_bipush (v := 12) rfl kb_12 ?_
            refine z_idiv rfl rfl jk_12 (by omega) (by omega) (fun v11 ev11 => ?_)
            refine x_iload (x := l7) rfl rfl ?_
            refine x_bipush (v := 12) rfl kb_12 ?_
            refine z_irem rfl rfl jk_12 (by omega) (by omega) (fun v12 ev12 => ?_)
            refine x_inv (N := m_X12_clauseAt) (As := [.int v11, .int v12]) (b := 125) (st := [.ref 126, .int l5, .int v4, .ref 125]) (dx9 := 10) (mc := 0) (ms := 0) (host := "") 12 rfl t_X12_clauseAt ⟨Or.inl q_12_679, i_X12_clauseAt.1, i_X12_clauseAt.2⟩ ⟨by decide, rfl⟩ (congrArg Prod.fst (J.1.1 125 (12, 92) rfl)) rfl (by decide) rfl rfl ⟨by decide, by decide⟩ (jC.of rfl k_X12_clauseAt rfl ?_)
            show jX m_X12_clauseAt 10 0 0 0 [(0, .ref 125), (1, .int v11), (2, .int v12)] [] _ 0 0 _
            refine x_iloadn (x := v11) rfl rfl ?_
            refine x_inst (N := m_X12_textAt) (As := [.int v11]) (st := []) (dx9 := 9) (mc := 0) (ms := 0) (host := "") rfl t_X12_textAt ⟨Or.inl q_12_676, s_X12_textAt⟩ rfl (by decide) rfl rfl ⟨by decide, by decide⟩ (jC.of rfl k_X12_textAt rfl ?_)
            show jX m_X12_textAt 9 0 0 0 [(0, .int v11)] [] _ 0 0 _
            refine x_sipush (v := 18820) rfl ks_18820 ?_
            refine x_sipush (v := 924) rfl ks_924 ?_
            refine x_iloadn (x := v11) rfl rfl ?_
            refine z_imul rfl jk_924 rfl (by omega) (fun v13 ev13 => ?_)
            refine z_iadd rfl jk_18820 rfl (by omega) (fun v14 ev14 => ?_)
            refine x_iret rfl rfl ?_
            show jX m_X12_clauseAt 10 0 0 4 [(0, .ref 125), (1, .int v11), (2, .int v12)] [.int v14] _ 0 0 _
            refine x_iconst (v := 4) rfl ki_4 ?_
            refine z_iadd rfl rfl jk_4 (by omega) (fun v15 ev15 => ?_)
            refine x_bipush (v := 10) rfl kb_10 ?_
            refine x_iloadn (x := v12) rfl rfl ?_
            refine z_imul rfl jk_10 rfl (by omega) (fun v16 ev16 => ?_)
            refine z_iadd rfl rfl rfl (by omega) (fun v17 ev17 => ?_)
            refine x_iret rfl rfl ?_
            show jX m_X12_findTurns 11 0 0 151 [(10, .int v6), (9, .int v4), (0, .ref 125), (1, .int l1), (2, .int l2), (3, .int l3), (4, .int l4), (5, .int l5), (6, .int l6), (7, .int l7), (8, .int l8)] [.int v17, .ref 126, .int l5, .int v4, .ref 125] _ 0 0 _
            refine x_iconst (v := 2) rfl ki_2 ?_
            refine z_iadd rfl rfl jk_2 (by omega) (fun v18 ev18 => ?_)
            refine z_iald0 (N := 50660) rfl J rfl rfl (by omega) (fun v19 qv19 => ?_)
            have ev19 := jfull v19
            have sv19 := jwv_2 (t := l7.toInt / 12) (c := l7.toInt % 12) hD J (by omega) (by omega) ((jtc_e (jeq_c S8 rfl jeq_0) C0).resolve_left (by omega)) (by omega) qv19
            refine x_inv (N := m_X12_servedLately) (As := [.int v4, .int l5, .int v19]) (b := 125) (st := []) (dx9 := 1) (mc := 0) (ms := 0) (host := "") 12 rfl t_X12_servedLately ⟨Or.inl q_12_835, i_X12_servedLately.1, i_X12_servedLately.2⟩ ⟨by decide, rfl⟩ (congrArg Prod.fst (J.1.1 125 (12, 92) rfl)) rfl (by decide) rfl rfl ⟨by decide, by decide⟩ (sf_X12_servedLately_r125 (jr_of rfl (by omega)) (jr_of rfl (by omega)) (jr_of rfl (by omega)) hD J  (fun v21 h ev21 J S20 => ?_))
            have Sm := jSm_tr rfl Sm S20
            show jX m_X12_findTurns 11 0 0 157 [(10, .int v6), (9, .int v4), (0, .ref 125), (1, .int l1), (2, .int l2), (3, .int l3), (4, .int l4), (5, .int l5), (6, .int l6), (7, .int l7), (8, .int l8)] [.int v21] _ 0 0 _
            refine x_ifne (tgt := 185) rfl rfl (ti_ne rfl jk_0 ⟨fun c22 => ?_, fun c22 => ?_⟩)
            ·
              exact jX.sub (jsb_c rfl (jsb_c rfl (jsb_c rfl (jsb_c rfl (jsb_c rfl (jsb_c rfl (jsb_c rfl (jsb_c rfl (jsb_c rfl (jsb_c rfl jsb_n)))))))))) (ct_X12_findTurns_r125_185 hD hQ k14 ih l1 l2 l3 l4 l5 l6 l7 l8 v4 g0 h (jr_of rfl (by omega)) (jr_of rfl (by omega)) (jr_of rfl (by omega)) (jr_of rfl (by omega)) (jr_of rfl (by omega)) (jr_of rfl (by omega)) (jr_mod rfl (by omega)) (jr_of rfl (by omega)) (jr_of rfl (by omega)) (jr_of rfl (by omega)) (jr_of rfl (by omega)) (jtc_e (jeq_c S20 rfl (jeq_c S8 rfl jeq_0)) C0) (by omega) (jmc S20 rfl (jmc S8 rfl z0)) (by omega) (by omega) J Sm)
            ·
              refine x_aloadn (x := 125) rfl rfl ?_
              refine x_iload (x := l7) rfl rfl ?_
              refine x_bipush (v := 12) rfl kb_12 ?_
              refine z_idiv rfl rfl jk_12 (by omega) (by omega) (fun v23 ev23 => ?_)
              refine x_iload (x := l7) rfl rfl ?_
              refine x_bipush (v := 12) rfl kb_12 ?_
              refine z_irem rfl rfl jk_12 (by omega) (by omega) (fun v24 ev24 => ?_)
              refine x_iload (x := v6) rfl rfl ?_
              refine x_iload (x := l6) rfl rfl ?_
              refine x_inv (N := m_X12_holdsFor) (As := [.int v23, .int v24, .int v6, .int l6]) (b := 125) (st := []) (dx9 := 10) (mc := 0) (ms := 0) (host := "") 12 rfl t_X12_holdsFor ⟨Or.inl q_12_749, i_X12_holdsFor.1, i_X12_holdsFor.2⟩ ⟨by decide, rfl⟩ (congrArg Prod.fst (J.1.1 125 (12, 92) rfl)) rfl (by decide) rfl rfl ⟨by decide, by decide⟩ (sf_X12_holdsFor_r125 (jr_of rfl (by omega)) (jr_of rfl (by omega)) (jr_of rfl (by omega)) (jr_of rfl (by omega)) (jtc_h (jtc_e (jeq_c S20 rfl (jeq_c S8 rfl jeq_0)) C0) (by omega) ev23 ev24) hD J  (fun v26 h ev26 J S25 => ?_))
              have Sm := jSm_tr rfl Sm S25
              show jX m_X12_findTurns 11 0 0 178 [(10, .int v6), (9, .int v4), (0, .ref 125), (1, .int l1), (2, .int l2), (3, .int l3), (4, .int l4), (5, .int l5), (6, .int l6), (7, .int l7), (8, .int l8)] [.int v26] _ 0 0 _
              refine x_ifeq (tgt := 185) rfl rfl (ti_eq rfl jk_0 ⟨fun c27 => ?_, fun c27 => ?_⟩)
              ·
                exact jX.sub (jsb_c rfl (jsb_c rfl (jsb_c rfl (jsb_c rfl (jsb_c rfl (jsb_c rfl (jsb_c rfl (jsb_c rfl (jsb_c rfl (jsb_c rfl jsb_n)))))))))) (ct_X12_findTurns_r125_185 hD hQ k14 ih l1 l2 l3 l4 l5 l6 l7 l8 v4 g0 h (jr_of rfl (by omega)) (jr_of rfl (by omega)) (jr_of rfl (by omega)) (jr_of rfl (by omega)) (jr_of rfl (by omega)) (jr_of rfl (by omega)) (jr_mod rfl (by omega)) (jr_of rfl (by omega)) (jr_of rfl (by omega)) (jr_of rfl (by omega)) (jr_of rfl (by omega)) (jtc_e (jeq_c S25 rfl (jeq_c S20 rfl (jeq_c S8 rfl jeq_0))) C0) (by omega) (jmc S25 rfl (jmc S20 rfl (jmc S8 rfl z0))) (by omega) (by omega) J Sm)
              ·
                refine x_iconst (v := 1) rfl ki_1 ?_
                refine x_goto (tgt := 186) rfl rfl ?_
                exact jX.sub (jsb_c rfl (jsb_c rfl (jsb_c rfl (jsb_c rfl (jsb_c rfl (jsb_c rfl (jsb_c rfl (jsb_c rfl (jsb_c rfl (jsb_c rfl jsb_n)))))))))) (ct_X12_findTurns_r125_300186 hD hQ k14 ih l1 l2 l3 l4 l5 l6 l7 l8 v4 g0 h (jr_of rfl (by omega)) (jr_of rfl (by omega)) (jr_of rfl (by omega)) (jr_of rfl (by omega)) (jr_of rfl (by omega)) (jr_of rfl (by omega)) (jr_mod rfl (by omega)) (jr_of rfl (by omega)) (jr_of rfl (by omega)) (jr_of rfl (by omega)) (jr_of rfl (by omega)) (jtc_e (jeq_c S25 rfl (jeq_c S20 rfl (jeq_c S8 rfl jeq_0))) C0) (by omega) (jmc S25 rfl (jmc S20 rfl (jmc S8 rfl z0))) (by omega) (by omega) J Sm)
          ·
            refine x_iconst (v := 1) rfl ki_1 ?_
            refine x_goto (tgt := 16) rfl rfl ?_
            refine x_zret rfl rfl (by decide) ?_
            show jX m_X12_findTurns 11 0 0 125 [(10, .int v6), (9, .int v4), (0, .ref 125), (1, .int l1), (2, .int l2), (3, .int l3), (4, .int l4), (5, .int l5), (6, .int l6), (7, .int l7), (8, .int l8)] [.int 1] _ 0 0 _
            refine x_ifne (tgt := 185) rfl rfl (ti_ne jk_1 jk_0 (bn_t (by omega) ?_))
            exact jX.sub (jsb_c rfl (jsb_c rfl (jsb_c rfl (jsb_c rfl (jsb_c rfl (jsb_c rfl (jsb_c rfl (jsb_c rfl (jsb_c rfl (jsb_c rfl jsb_n)))))))))) (ct_X12_findTurns_r125_185 hD hQ k14 ih l1 l2 l3 l4 l5 l6 l7 l8 v4 g0 h (jr_of rfl (by omega)) (jr_of rfl (by omega)) (jr_of rfl (by omega)) (jr_of rfl (by omega)) (jr_of rfl (by omega)) (jr_of rfl (by omega)) (jr_mod rfl (by omega)) (jr_of rfl (by omega)) (jr_of rfl (by omega)) (jr_of rfl (by omega)) (jr_of rfl (by omega)) (jtc_e (jeq_c S8 rfl jeq_0) C0) (by omega) (jmc S8 rfl z0) (by omega) (by omega) J Sm)
set_option maxRecDepth 100000 in
set_option maxHeartbeats 4000000 in
theorem ct_X12_findTurns_r125_14 {Dy : jH → Prop} {h0 : jH} {Q : Option Value → jH → Prop} (hD : jDk Dy) (hQ : ∀ hx9, jJ jSgM Dy hx9 → jSm fp_X12_findTurns_r125 h0 hx9 → Q none hx9) : ∀ r : Nat, ∀ (l1 : Int32) (l2 : Int32) (l3 : Int32) (l4 : Int32) (l5 : Int32) (h : jH), 400 - l5.toInt < (r : Int) → 0 ≤ l1.toInt ∧ l1.toInt ≤ 3 → 0 ≤ l2.toInt ∧ l2.toInt ≤ 399 → 0 ≤ l3.toInt ∧ l3.toInt ≤ 40 → 0 ≤ l4.toInt ∧ l4.toInt ≤ 39 → 0 ≤ l5.toInt ∧ l5.toInt ≤ 400 → jJ jSgM Dy h → jSm fp_X12_findTurns_r125 h0 h → jX m_X12_findTurns 11 0 0 14 [(0, .ref 125), (1, .int l1), (2, .int l2), (3, .int l3), (4, .int l4), (5, .int l5)] [] h 0 0 Q := by
  intro r
  induction r with
  | zero =>
    intro l1 l2 l3 l4 l5 h hm y0 y1 y2 y3 y4   J Sm
    exfalso
    omega
  | succ r ih =>
    intro l1 l2 l3 l4 l5 h hm y0 y1 y2 y3 y4   J Sm
    refine x_iload (x := l5) rfl rfl ?_
    refine x_iloadn (x := l2) rfl rfl ?_
    refine x_icgt (tgt := 257) rfl rfl (ti_gt rfl rfl ⟨fun c1 => ?_, fun c1 => ?_⟩)
    ·
      refine x_vret rfl rfl ?_
      exact hQ _ J Sm
    ·
      refine x_iload (x := l5) rfl rfl ?_
      refine x_sipush (v := 366) rfl ks_366 ?_
      refine z_imul rfl rfl jk_366 (by omega) (fun v2 ev2 => ?_)
      refine x_istore (lsx9 := [(6, .int v2), (0, .ref 125), (1, .int l1), (2, .int l2), (3, .int l3), (4, .int l4), (5, .int l5)]) rfl rfl rfl ?_
      refine x_aloadn (x := 125) rfl rfl ?_
      refine x_iloadn (x := l1) rfl rfl ?_
      refine x_iload (x := v2) rfl rfl ?_
      refine x_inv (N := m_X12_turnClause) (As := [.int l1, .int v2]) (b := 125) (st := []) (dx9 := 5) (mc := 0) (ms := 0) (host := "") 12 rfl t_X12_turnClause ⟨Or.inl q_12_832, i_X12_turnClause.1, i_X12_turnClause.2⟩ ⟨by decide, rfl⟩ (congrArg Prod.fst (J.1.1 125 (12, 92) rfl)) rfl (by decide) rfl rfl ⟨by decide, by decide⟩ (sf_X12_turnClause_r125 (jr_of rfl (by omega)) (jr_of rfl (by omega)) (jr_mod rfl (by omega)) hD J  (fun v5 h ev5 J S3 P4 => ?_))
      have Sm := jSm_tr rfl Sm S3
      show jX m_X12_findTurns 11 0 0 35 [(6, .int v2), (0, .ref 125), (1, .int l1), (2, .int l2), (3, .int l3), (4, .int l4), (5, .int l5)] [.int v5] _ 0 0 _
      refine x_istore (lsx9 := [(7, .int v5), (6, .int v2), (0, .ref 125), (1, .int l1), (2, .int l2), (3, .int l3), (4, .int l4), (5, .int l5)]) rfl rfl rfl ?_
      refine x_aloadn (x := 125) rfl rfl ?_
      refine z_getR (N := 92) (b := 168) 12 83 rfl f_12_162 rfl J rfl 16083 ⟨rfl, rfl⟩ rfl ?_
      refine x_iload (x := l5) rfl rfl ?_
      refine x_iconst (v := (-1)) rfl ki_m1 ?_
      refine z_iast (N := 400) (l := 0) (u := 400) (w := (-1)) rfl hD J Sm rfl rfl rfl (by omega) jk_m1 (wr_168 (fun q1 q2 q3 q4 => by omega)) rfl (fun h w6 J Sm => ?_)
      refine x_aloadn (x := 125) rfl rfl ?_
      refine z_getR (N := 92) (b := 169) 12 84 rfl f_12_165 rfl J rfl 16084 ⟨rfl, rfl⟩ rfl ?_
      refine x_iload (x := l5) rfl rfl ?_
      refine x_iconst (v := 0) rfl ki_0 ?_
      refine z_iast (N := 400) (l := 0) (u := 400) (w := 0) rfl hD J Sm rfl rfl rfl (by omega) jk_0 (wr_169) rfl (fun h w7 J Sm => ?_)
      refine x_iload (x := v5) rfl rfl ?_
      refine x_iconst (v := (-1)) rfl ki_m1 ?_
      refine x_icne (tgt := 62) rfl rfl (ti_ne rfl jk_m1 ⟨fun c8 => ?_, fun c8 => ?_⟩)
      ·
        refine x_aloadn (x := 125) rfl rfl ?_
        refine x_iload (x := v2) rfl rfl ?_
        refine x_iconst (v := 1) rfl ki_1 ?_
        refine x_inv (N := m_X12_findHouses) (As := [.int v2, .int 1]) (b := 125) (st := []) (dx9 := 2) (mc := 0) (ms := 0) (host := "") 12 rfl t_X12_findHouses ⟨Or.inl q_12_694, i_X12_findHouses.1, i_X12_findHouses.2⟩ ⟨by decide, rfl⟩ (congrArg Prod.fst (J.1.1 125 (12, 92) rfl)) rfl (by decide) rfl rfl ⟨by decide, by decide⟩ (sf_X12_findHouses_r125_c1 (jr_of rfl (by omega)) hD J  (fun h J S9 => ?_))
        have Sm := jSm_tr rfl Sm S9
        show jX m_X12_findTurns 11 0 0 69 [(7, .int v5), (6, .int v2), (0, .ref 125), (1, .int l1), (2, .int l2), (3, .int l3), (4, .int l4), (5, .int l5)] [] _ 0 0 _
        refine x_iconst (v := 0) rfl ki_0 ?_
        refine x_istore (lsx9 := [(8, .int 0), (7, .int v5), (6, .int v2), (0, .ref 125), (1, .int l1), (2, .int l2), (3, .int l3), (4, .int l4), (5, .int l5)]) rfl rfl rfl ?_
        exact jX.sub (jsb_c rfl (jsb_c rfl (jsb_c rfl (jsb_c rfl (jsb_c rfl (jsb_c rfl (jsb_c rfl (jsb_c rfl (jsb_c rfl jsb_n))))))))) (ct_X12_findTurns_r125_72 hD hQ ih 41 l1 l2 l3 l4 l5 v2 v5 0 (-1) h (by have := jk_0; omega) (jr_of rfl (by omega)) (jr_of rfl (by omega)) (jr_of rfl (by omega)) (jr_of rfl (by omega)) (jr_of rfl (by omega)) (jr_of rfl (by omega)) (jr_mod rfl (by omega)) (jr_of rfl (by omega)) (jr_of jk_0 (by omega)) (jr_of jk_m1 (by omega)) (jtc_e (jeq_c S9 rfl (jeq_o w7 rfl (jeq_o w6 rfl jeq_0))) P4) (by have := jk_m1; omega) (jmc S9 rfl (jmo w7 rfl (jmw w6))) (by omega) J Sm)
      ·
        refine x_goto (tgt := 251) rfl rfl ?_
        exact jX.sub (jsb_c rfl (jsb_c rfl (jsb_c rfl (jsb_c rfl (jsb_c rfl (jsb_c rfl jsb_n)))))) (ct_X12_findTurns_r125_251 hD hQ ih l1 l2 l3 l4 l5 (-1) h (jr_of rfl (by omega)) (jr_of rfl (by omega)) (jr_of rfl (by omega)) (jr_of rfl (by omega)) (jr_of rfl (by omega)) (jr_of jk_m1 (by omega)) (by have := jk_m1; omega) (jmo w7 rfl (jmw w6)) (by omega) J Sm)
set_option maxRecDepth 100000 in
set_option maxHeartbeats 4000000 in
theorem sf_X12_findTurns_r125 {Dy : jH → Prop} {h : jH} {Q : Option Value → jH → Prop} {a1 : Int32} {a2 : Int32} (y1 : 0 ≤ a1.toInt ∧ a1.toInt ≤ 3) (y2 : 0 ≤ a2.toInt ∧ a2.toInt ≤ 399) (hD : jDk Dy) (J : jJ jSgM Dy h) (hQ : ∀ hx9, jJ jSgM Dy hx9 → jSm fp_X12_findTurns_r125 h hx9 → Q none hx9) : jC m_X12_findTurns 11 0 0 [.ref 125, .int a1, .int a2] h Q := by
  refine jC.of rfl k_X12_findTurns rfl ?_
  have Sm := jSm_rf fp_X12_findTurns_r125 h
  show jX m_X12_findTurns 11 0 0 0 [(0, .ref 125), (1, .int a1), (2, .int a2)] [] _ 0 0 _
  refine x_aloadn (x := 125) rfl rfl ?_
  refine z_getR (N := 92) (b := 126) 12 2 rfl f_12_8 rfl J rfl 16002 ⟨rfl, rfl⟩ rfl ?_
  refine x_bipush (v := 7) rfl kb_7 ?_
  refine z_iald (N := 50660) rfl J rfl sg_126_7_8_1_0_1 jk_7 (by omega) (fun v1 qv1 ev1 => ?_)
  refine x_istoren (lsx9 := [(3, .int v1), (0, .ref 125), (1, .int a1), (2, .int a2)]) rfl rfl rfl ?_
  refine x_iconst (v := 0) rfl ki_0 ?_
  refine x_istore (lsx9 := [(4, .int 0), (3, .int v1), (0, .ref 125), (1, .int a1), (2, .int a2)]) rfl rfl rfl ?_
  refine x_iconst (v := 0) rfl ki_0 ?_
  refine x_istore (lsx9 := [(5, .int 0), (4, .int 0), (3, .int v1), (0, .ref 125), (1, .int a1), (2, .int a2)]) rfl rfl rfl ?_
  exact jX.sub (jsb_c rfl (jsb_c rfl (jsb_c rfl (jsb_c rfl (jsb_c rfl (jsb_c rfl jsb_n)))))) (ct_X12_findTurns_r125_14 hD hQ  401 a1 a2 v1 0 0 h (by have := jk_0; omega) (jr_of rfl (by omega)) (jr_of rfl (by omega)) (jr_of rfl (by omega)) (jr_of jk_0 (by omega)) (jr_of jk_0 (by omega)) J Sm)
def fp_X12_force_r125 : jFp := [(125, 0, 1), (125, 28, 29), (125, 31, 32), (125, 57, 58), (137, 0, 80), (138, 0, 2), (139, 0, 600), (140, 0, 200), (152, 0, 360), (153, 0, 30)]
set_option maxRecDepth 100000 in
set_option maxHeartbeats 4000000 in
theorem ct_X12_force_r125_29 {Dy : jH → Prop} {h0 : jH} {Q : Option Value → jH → Prop} (hD : jDk Dy) (hQ : ∀ (v : Int32) hx9, (-1) ≤ v.toInt ∧ v.toInt ≤ 1 → jJ jSgM Dy hx9 → jSm fp_X12_force_r125 h0 hx9 → Q (some (.int v)) hx9) : ∀ (h : jH), jJ jSgM Dy h → jSm fp_X12_force_r125 h0 h → jX m_X12_force 9 0 0 29 [] [] h 0 0 Q := by
  intro  h    J Sm
  refine x_iconst (v := (-1)) rfl ki_m1 ?_
  refine x_iret rfl rfl ?_
  exact hQ _ _ (jr_of jk_m1 (by omega)) J Sm
set_option maxRecDepth 100000 in
set_option maxHeartbeats 4000000 in
theorem ct_X12_force_r125_200052 {Dy : jH → Prop} {h0 : jH} {Q : Option Value → jH → Prop} (hD : jDk Dy) (hQ : ∀ (v : Int32) hx9, (-1) ≤ v.toInt ∧ v.toInt ≤ 1 → jJ jSgM Dy hx9 → jSm fp_X12_force_r125 h0 hx9 → Q (some (.int v)) hx9) : ∀ (h : jH), jJ jSgM Dy h → jSm fp_X12_force_r125 h0 h → jX m_X12_force 9 0 0 52 [] [.int 0] h 0 0 Q := by
  intro  h    J Sm
  refine x_iret rfl rfl ?_
  exact hQ _ _ (jr_of jk_0 (by omega)) J Sm
set_option maxRecDepth 100000 in
set_option maxHeartbeats 4000000 in
theorem ct_X12_force_r125_300052 {Dy : jH → Prop} {h0 : jH} {Q : Option Value → jH → Prop} (hD : jDk Dy) (hQ : ∀ (v : Int32) hx9, (-1) ≤ v.toInt ∧ v.toInt ≤ 1 → jJ jSgM Dy hx9 → jSm fp_X12_force_r125 h0 hx9 → Q (some (.int v)) hx9) : ∀ (h : jH), jJ jSgM Dy h → jSm fp_X12_force_r125 h0 h → jX m_X12_force 9 0 0 52 [] [.int 1] h 0 0 Q := by
  intro  h    J Sm
  refine x_iret rfl rfl ?_
  exact hQ _ _ (jr_of jk_1 (by omega)) J Sm
set_option maxRecDepth 100000 in
set_option maxHeartbeats 4000000 in
theorem sf_X12_force_r125 {Dy : jH → Prop} {h : jH} {Q : Option Value → jH → Prop} {a1 : Int32} {a2 : Int32} {a3 : Int32} {a4 : Int32} (hD : jDk Dy) (J : jJ jSgM Dy h) (hQ : ∀ (v : Int32) hx9, (-1) ≤ v.toInt ∧ v.toInt ≤ 1 → jJ jSgM Dy hx9 → jSm fp_X12_force_r125 h hx9 → Q (some (.int v)) hx9) : jC m_X12_force 9 0 0 [.ref 125, .int a1, .int a2, .int a3, .int a4] h Q := by
  refine jC.of rfl k_X12_force rfl ?_
  have Sm := jSm_rf fp_X12_force_r125 h
  have ea1 := jfull a1
  have ea2 := jfull a2
  have ea3 := jfull a3
  have ea4 := jfull a4
  show jX m_X12_force 9 0 0 0 [(0, .ref 125), (1, .int a1), (2, .int a2), (3, .int a3), (4, .int a4)] [] _ 0 0 _
  refine x_aloadn (x := 125) rfl rfl ?_
  refine x_iconst (v := 0) rfl ki_0 ?_
  refine z_putI (N := 92) (w := 0) 12 0 rfl f_12_180 rfl (jfin_no TX12 RX12 92 rfl rfl) hD J Sm rfl rfl jk_0 (pw_125_0 (by omega)) rfl (fun h w1 J Sm => ?_)
  refine x_aloadn (x := 125) rfl rfl ?_
  refine x_iloadn (x := a1) rfl rfl ?_
  refine x_iloadn (x := a2) rfl rfl ?_
  refine x_inv (N := m_X12_isClause) (As := [.int a1, .int a2]) (b := 125) (st := []) (dx9 := 8) (mc := 0) (ms := 0) (host := "") 12 rfl t_X12_isClause ⟨Or.inl q_12_685, i_X12_isClause.1, i_X12_isClause.2⟩ ⟨by decide, rfl⟩ (congrArg Prod.fst (J.1.1 125 (12, 92) rfl)) rfl (by decide) rfl rfl ⟨by decide, by decide⟩ (jC.of rfl k_X12_isClause rfl ?_)
  show jX m_X12_isClause 8 0 0 0 [(0, .ref 125), (1, .int a1), (2, .int a2)] [] _ 0 0 _
  refine x_iloadn (x := a1) rfl rfl ?_
  refine z_i2l rfl rfl (fun v2 ev2 => ?_)
  refine x_lconst (v := 0) rfl kl_0 ?_
  refine x_aloadn (x := 125) rfl rfl ?_
  refine z_getR (N := 92) (b := 126) 12 2 rfl f_12_8 rfl J rfl 16002 ⟨rfl, rfl⟩ rfl ?_
  refine x_iconst (v := 4) rfl ki_4 ?_
  refine z_iald (N := 50660) rfl J rfl sg_126_4_5_1_0_1 jk_4 (by omega) (fun v3 qv3 ev3 => ?_)
  refine z_i2l rfl rfl (fun v4 ev4 => ?_)
  refine x_lconst (v := 1) rfl kl_1 ?_
  refine z_lsub rfl rfl jkl_1 (by omega) (fun v5 ev5 => ?_)
  refine x_inst (N := m_X12_in) (As := [.long v2, .long 0, .long v5]) (st := []) (dx9 := 1) (mc := 0) (ms := 0) (host := "") rfl t_X12_in ⟨Or.inl q_12_188, s_X12_in⟩ rfl (by decide) rfl rfl ⟨by decide, by decide⟩ (zc_X12_in rfl jkl_0 rfl (fun v6 ev6 => ?_))
  show jX m_X12_isClause 8 0 0 15 [(0, .ref 125), (1, .int a1), (2, .int a2)] [.int v6] _ 0 0 _
  refine x_ifeq (tgt := 45) rfl rfl (ti_eq rfl jk_0 ⟨fun c7 => ?_, fun c7 => ?_⟩)
  ·
    refine x_iconst (v := 0) rfl ki_0 ?_
    refine x_zret rfl rfl (by decide) ?_
    show jX m_X12_force 9 0 0 11 [(0, .ref 125), (1, .int a1), (2, .int a2), (3, .int a3), (4, .int a4)] [.int 0] _ 0 0 _
    refine x_ifeq (tgt := 29) rfl rfl (ti_eq jk_0 jk_0 (br_t (by omega) ?_))
    exact jX.sub jsb_n (ct_X12_force_r125_29 hD hQ  h J Sm)
  ·
    refine x_iloadn (x := a2) rfl rfl ?_
    refine z_i2l rfl rfl (fun v8 ev8 => ?_)
    refine x_lconst (v := 0) rfl kl_0 ?_
    refine x_aloadn (x := 125) rfl rfl ?_
    refine z_getR (N := 92) (b := 126) 12 2 rfl f_12_8 rfl J rfl 16002 ⟨rfl, rfl⟩ rfl ?_
    refine x_iloadn (x := a1) rfl rfl ?_
    refine x_inst (N := m_X12_textAt) (As := [.int a1]) (st := [.ref 126, .long 0, .long v8]) (dx9 := 7) (mc := 0) (ms := 0) (host := "") rfl t_X12_textAt ⟨Or.inl q_12_676, s_X12_textAt⟩ rfl (by decide) rfl rfl ⟨by decide, by decide⟩ (jC.of rfl k_X12_textAt rfl ?_)
    show jX m_X12_textAt 7 0 0 0 [(0, .int a1)] [] _ 0 0 _
    refine x_sipush (v := 18820) rfl ks_18820 ?_
    refine x_sipush (v := 924) rfl ks_924 ?_
    refine x_iloadn (x := a1) rfl rfl ?_
    refine z_imul rfl jk_924 rfl (by omega) (fun v9 ev9 => ?_)
    refine z_iadd rfl jk_18820 rfl (by omega) (fun v10 ev10 => ?_)
    refine x_iret rfl rfl ?_
    show jX m_X12_isClause 8 0 0 29 [(0, .ref 125), (1, .int a1), (2, .int a2)] [.int v10, .ref 126, .long 0, .long v8] _ 0 0 _
    refine x_iconst (v := 3) rfl ki_3 ?_
    refine z_iadd rfl rfl jk_3 (by omega) (fun v11 ev11 => ?_)
    refine z_iald (N := 50660) rfl J rfl sg_126_18820_46540_924_3_4 rfl (by omega) (fun v12 qv12 ev12 => ?_)
    refine z_i2l rfl rfl (fun v13 ev13 => ?_)
    refine x_lconst (v := 1) rfl kl_1 ?_
    refine z_lsub rfl rfl jkl_1 (by omega) (fun v14 ev14 => ?_)
    refine x_inst (N := m_X12_in) (As := [.long v8, .long 0, .long v14]) (st := []) (dx9 := 1) (mc := 0) (ms := 0) (host := "") rfl t_X12_in ⟨Or.inl q_12_188, s_X12_in⟩ rfl (by decide) rfl rfl ⟨by decide, by decide⟩ (zc_X12_in rfl jkl_0 rfl (fun v15 ev15 => ?_))
    show jX m_X12_isClause 8 0 0 38 [(0, .ref 125), (1, .int a1), (2, .int a2)] [.int v15] _ 0 0 _
    refine x_ifeq (tgt := 45) rfl rfl (ti_eq rfl jk_0 ⟨fun c16 => ?_, fun c16 => ?_⟩)
    ·
      refine x_iconst (v := 0) rfl ki_0 ?_
      refine x_zret rfl rfl (by decide) ?_
      show jX m_X12_force 9 0 0 11 [(0, .ref 125), (1, .int a1), (2, .int a2), (3, .int a3), (4, .int a4)] [.int 0] _ 0 0 _
      refine x_ifeq (tgt := 29) rfl rfl (ti_eq jk_0 jk_0 (br_t (by omega) ?_))
      exact jX.sub jsb_n (ct_X12_force_r125_29 hD hQ  h J Sm)
    ·
      refine x_iconst (v := 1) rfl ki_1 ?_
      refine x_goto (tgt := 46) rfl rfl ?_
      refine x_zret rfl rfl (by decide) ?_
      show jX m_X12_force 9 0 0 11 [(0, .ref 125), (1, .int a1), (2, .int a2), (3, .int a3), (4, .int a4)] [.int 1] _ 0 0 _
      refine x_ifeq (tgt := 29) rfl rfl (ti_eq jk_1 jk_0 (br_f (by omega) ?_))
      refine x_iloadn (x := a3) rfl rfl ?_
      refine x_inst (N := m_X12_isDay) (As := [.int a3]) (st := []) (dx9 := 2) (mc := 0) (ms := 0) (host := "") rfl t_X12_isDay ⟨Or.inl q_12_273, s_X12_isDay⟩ rfl (by decide) rfl rfl ⟨by decide, by decide⟩ (zc_X12_isDay (d := 1) rfl (fun v17 ev17 => ?_))
      show jX m_X12_force 9 0 0 18 [(0, .ref 125), (1, .int a1), (2, .int a2), (3, .int a3), (4, .int a4)] [.int v17] _ 0 0 _
      refine x_ifeq (tgt := 29) rfl rfl (ti_eq rfl jk_0 ⟨fun c18 => ?_, fun c18 => ?_⟩)
      ·
        exact jX.sub jsb_n (ct_X12_force_r125_29 hD hQ  h J Sm)
      ·
        refine x_iload (x := a4) rfl rfl ?_
        refine x_inst (N := m_X12_isDay) (As := [.int a4]) (st := []) (dx9 := 2) (mc := 0) (ms := 0) (host := "") rfl t_X12_isDay ⟨Or.inl q_12_273, s_X12_isDay⟩ rfl (by decide) rfl rfl ⟨by decide, by decide⟩ (zc_X12_isDay (d := 1) rfl (fun v19 ev19 => ?_))
        show jX m_X12_force 9 0 0 26 [(0, .ref 125), (1, .int a1), (2, .int a2), (3, .int a3), (4, .int a4)] [.int v19] _ 0 0 _
        refine x_ifne (tgt := 31) rfl rfl (ti_ne rfl jk_0 ⟨fun c20 => ?_, fun c20 => ?_⟩)
        ·
          refine x_aloadn (x := 125) rfl rfl ?_
          refine x_iload (x := a4) rfl rfl ?_
          refine x_inv (N := m_X12_find) (As := [.int a4]) (b := 125) (st := []) (dx9 := 8) (mc := 0) (ms := 0) (host := "") 12 rfl t_X12_find ⟨Or.inl q_12_393, i_X12_find.1, i_X12_find.2⟩ ⟨by decide, rfl⟩ (congrArg Prod.fst (J.1.1 125 (12, 92) rfl)) rfl (by decide) rfl rfl ⟨by decide, by decide⟩ (sf_X12_find_r125 (jr_of rfl (by omega)) hD J  (fun h J S21 => ?_))
          have Sm := jSm_tr rfl Sm S21
          show jX m_X12_force 9 0 0 37 [(0, .ref 125), (1, .int a1), (2, .int a2), (3, .int a3), (4, .int a4)] [] _ 0 0 _
          refine x_aloadn (x := 125) rfl rfl ?_
          refine x_iloadn (x := a1) rfl rfl ?_
          refine x_iloadn (x := a2) rfl rfl ?_
          refine x_iloadn (x := a3) rfl rfl ?_
          refine x_inv (N := m_X12_isForce) (As := [.int a1, .int a2, .int a3]) (b := 125) (st := []) (dx9 := 8) (mc := 0) (ms := 0) (host := "") 12 rfl t_X12_isForce ⟨Or.inl q_12_688, i_X12_isForce.1, i_X12_isForce.2⟩ ⟨by decide, rfl⟩ (congrArg Prod.fst (J.1.1 125 (12, 92) rfl)) rfl (by decide) rfl rfl ⟨by decide, by decide⟩ (jC.of rfl k_X12_isForce rfl ?_)
          show jX m_X12_isForce 8 0 0 0 [(0, .ref 125), (1, .int a1), (2, .int a2), (3, .int a3)] [] _ 0 0 _
          refine x_aloadn (x := 125) rfl rfl ?_
          refine x_iloadn (x := a3) rfl rfl ?_
          refine x_inv (N := m_X12_findForce) (As := [.int a3]) (b := 125) (st := []) (dx9 := 3) (mc := 0) (ms := 0) (host := "") 12 rfl t_X12_findForce ⟨Or.inl q_12_682, i_X12_findForce.1, i_X12_findForce.2⟩ ⟨by decide, rfl⟩ (congrArg Prod.fst (J.1.1 125 (12, 92) rfl)) rfl (by decide) rfl rfl ⟨by decide, by decide⟩ (sf_X12_findForce_r125 (jr_of rfl (by omega)) hD J  (fun h J S22 => ?_))
          have Sm := jSm_tr rfl Sm S22
          show jX m_X12_isForce 8 0 0 5 [(0, .ref 125), (1, .int a1), (2, .int a2), (3, .int a3)] [] _ 0 0 _
          refine x_aloadn (x := 125) rfl rfl ?_
          refine z_getR (N := 92) (b := 153) 12 59 rfl f_12_117 rfl J rfl 16059 ⟨rfl, rfl⟩ rfl ?_
          refine x_iloadn (x := a1) rfl rfl ?_
          refine z_zald (N := 30) rfl J rfl sg_153_0_30_1_0_1 rfl (by omega) (fun v23 qv23 ev23 => ?_)
          refine x_ifeq (tgt := 32) rfl rfl (ti_eq rfl jk_0 ⟨fun c24 => ?_, fun c24 => ?_⟩)
          ·
            refine x_iconst (v := 0) rfl ki_0 ?_
            refine x_zret rfl rfl (by decide) ?_
            show jX m_X12_force 9 0 0 44 [(0, .ref 125), (1, .int a1), (2, .int a2), (3, .int a3), (4, .int a4)] [.int 0] _ 0 0 _
            refine x_ifeq (tgt := 51) rfl rfl (ti_eq jk_0 jk_0 (br_t (by omega) ?_))
            refine x_iconst (v := 0) rfl ki_0 ?_
            exact jX.sub jsb_n (ct_X12_force_r125_200052 hD hQ  h J Sm)
          ·
            refine x_aloadn (x := 125) rfl rfl ?_
            refine z_getR (N := 92) (b := 152) 12 58 rfl f_12_114 rfl J rfl 16058 ⟨rfl, rfl⟩ rfl ?_
            refine x_bipush (v := 12) rfl kb_12 ?_
            refine x_iloadn (x := a1) rfl rfl ?_
            refine z_imul rfl jk_12 rfl (by omega) (fun v25 ev25 => ?_)
            refine x_iloadn (x := a2) rfl rfl ?_
            refine z_iadd rfl rfl rfl (by omega) (fun v26 ev26 => ?_)
            refine z_zald (N := 360) rfl J rfl sg_152_0_360_1_0_1 rfl (by omega) (fun v27 qv27 ev27 => ?_)
            refine x_ifne (tgt := 32) rfl rfl (ti_ne rfl jk_0 ⟨fun c28 => ?_, fun c28 => ?_⟩)
            ·
              refine x_iconst (v := 0) rfl ki_0 ?_
              refine x_zret rfl rfl (by decide) ?_
              show jX m_X12_force 9 0 0 44 [(0, .ref 125), (1, .int a1), (2, .int a2), (3, .int a3), (4, .int a4)] [.int 0] _ 0 0 _
              refine x_ifeq (tgt := 51) rfl rfl (ti_eq jk_0 jk_0 (br_t (by omega) ?_))
              refine x_iconst (v := 0) rfl ki_0 ?_
              exact jX.sub jsb_n (ct_X12_force_r125_200052 hD hQ  h J Sm)
            ·
              refine x_iconst (v := 1) rfl ki_1 ?_
              refine x_goto (tgt := 33) rfl rfl ?_
              refine x_zret rfl rfl (by decide) ?_
              show jX m_X12_force 9 0 0 44 [(0, .ref 125), (1, .int a1), (2, .int a2), (3, .int a3), (4, .int a4)] [.int 1] _ 0 0 _
              refine x_ifeq (tgt := 51) rfl rfl (ti_eq jk_1 jk_0 (br_f (by omega) ?_))
              refine x_iconst (v := 1) rfl ki_1 ?_
              refine x_goto (tgt := 52) rfl rfl ?_
              exact jX.sub jsb_n (ct_X12_force_r125_300052 hD hQ  h J Sm)
        ·
          exact jX.sub jsb_n (ct_X12_force_r125_29 hD hQ  h J Sm)
def fp_X12_found_r125 : jFp := [(125, 0, 1), (125, 89, 90), (125, 90, 91), (125, 91, 92)]
set_option maxRecDepth 100000 in
set_option maxHeartbeats 4000000 in
theorem ct_X12_found_r125_25 {Dy : jH → Prop} {h0 : jH} {Q : Option Value → jH → Prop} (hD : jDk Dy) (hQ : ∀ (v : Int32) hx9, (-3) ≤ v.toInt ∧ v.toInt ≤ 199 → jJ jSgM Dy hx9 → jSm fp_X12_found_r125 h0 hx9 → Q (some (.int v)) hx9) : ∀ (h : jH), jJ jSgM Dy h → jSm fp_X12_found_r125 h0 h → jX m_X12_found 4 0 0 25 [] [] h 0 0 Q := by
  intro  h    J Sm
  refine x_bipush (v := (-3)) rfl kb_m3 ?_
  refine x_iret rfl rfl ?_
  exact hQ _ _ (jr_of jk_m3 (by omega)) J Sm
set_option maxRecDepth 100000 in
set_option maxHeartbeats 4000000 in
theorem ct_X12_found_r125_156 {Dy : jH → Prop} {h0 : jH} {Q : Option Value → jH → Prop} {R114 : Int} (hD : jDk Dy) (hQ : ∀ (v : Int32) hx9, (-3) ≤ v.toInt ∧ v.toInt ≤ 199 → jJ jSgM Dy hx9 → jSm fp_X12_found_r125 h0 hx9 → Q (some (.int v)) hx9) (k114 : ∀ (l1 : Int32) (l2 : Int64) (l4 : Int64) (l6 : Int32) (l7 : Int32) (h : jH), 200 - l7.toInt < R114 → 0 ≤ l1.toInt ∧ l1.toInt ≤ 399 → 0 ≤ l7.toInt ∧ l7.toInt ≤ 200 → l2.toInt ≠ 0 → jJ jSgM Dy h → jSm fp_X12_found_r125 h0 h → jX m_X12_found 4 0 0 114 [(0, .ref 125), (1, .int l1), (2, .long l2), (4, .long l4), (6, .int l6), (7, .int l7)] [] h 0 0 Q) : ∀ (l1 : Int32) (l2 : Int64) (l4 : Int64) (l6 : Int32) (l7 : Int32) (h : jH), 0 ≤ l1.toInt ∧ l1.toInt ≤ 399 → 0 ≤ l7.toInt ∧ l7.toInt ≤ 199 → l2.toInt ≠ 0 → 200 - l7.toInt ≤ R114 → jJ jSgM Dy h → jSm fp_X12_found_r125 h0 h → jX m_X12_found 4 0 0 156 [(0, .ref 125), (1, .int l1), (2, .long l2), (4, .long l4), (6, .int l6), (7, .int l7)] [] h 0 0 Q := by
  intro l1 l2 l4 l6 l7 h y0 y1 y2  m114 J Sm
  have el2 := jfullL l2
  have el4 := jfullL l4
  have el6 := jfull l6
  refine z_iinc (x := l7) (lsx9 := fun v1 => [(7, .int v1), (0, .ref 125), (1, .int l1), (2, .long l2), (4, .long l4), (6, .int l6)]) rfl rfl rfl jko_1 (by omega) rfl (fun _ => rfl) (fun v1 ev1 => ?_)
  refine x_goto (tgt := 114) rfl rfl ?_
  exact jX.sub (jsb_c rfl (jsb_c rfl (jsb_c rfl (jsb_c rfl (jsb_c rfl (jsb_c rfl jsb_n)))))) (k114 l1 l2 l4 l6 v1 h (by omega) (jr_of rfl (by omega)) (jr_of rfl (by omega)) (by omega) J Sm)
set_option maxRecDepth 100000 in
set_option maxHeartbeats 4000000 in
theorem ct_X12_found_r125_114 {Dy : jH → Prop} {h0 : jH} {Q : Option Value → jH → Prop} (hD : jDk Dy) (hQ : ∀ (v : Int32) hx9, (-3) ≤ v.toInt ∧ v.toInt ≤ 199 → jJ jSgM Dy hx9 → jSm fp_X12_found_r125 h0 hx9 → Q (some (.int v)) hx9) : ∀ r : Nat, ∀ (l1 : Int32) (l2 : Int64) (l4 : Int64) (l6 : Int32) (l7 : Int32) (h : jH), 200 - l7.toInt < (r : Int) → 0 ≤ l1.toInt ∧ l1.toInt ≤ 399 → 0 ≤ l7.toInt ∧ l7.toInt ≤ 200 → l2.toInt ≠ 0 → jJ jSgM Dy h → jSm fp_X12_found_r125 h0 h → jX m_X12_found 4 0 0 114 [(0, .ref 125), (1, .int l1), (2, .long l2), (4, .long l4), (6, .int l6), (7, .int l7)] [] h 0 0 Q := by
  intro r
  induction r with
  | zero =>
    intro l1 l2 l4 l6 l7 h hm y0 y1 y2   J Sm
    exfalso
    have el2 := jfullL l2
    have el4 := jfullL l4
    have el6 := jfull l6
    omega
  | succ r ih =>
    intro l1 l2 l4 l6 l7 h hm y0 y1 y2   J Sm
    have el2 := jfullL l2
    have el4 := jfullL l4
    have el6 := jfull l6
    refine x_iload (x := l7) rfl rfl ?_
    refine x_aloadn (x := 125) rfl rfl ?_
    refine z_getR (N := 92) (b := 126) 12 2 rfl f_12_8 rfl J rfl 16002 ⟨rfl, rfl⟩ rfl ?_
    refine x_iconst (v := 0) rfl ki_0 ?_
    refine z_iald (N := 50660) rfl J rfl sg_126_0_1_1_0_1 jk_0 (by omega) (fun v1 qv1 ev1 => ?_)
    refine x_icge (tgt := 162) rfl rfl (ti_ge rfl rfl ⟨fun c2 => ?_, fun c2 => ?_⟩)
    ·
      refine x_bipush (v := (-2)) rfl kb_m2 ?_
      refine x_iret rfl rfl ?_
      exact hQ _ _ (jr_of jk_m2 (by omega)) J Sm
    ·
      refine x_aloadn (x := 125) rfl rfl ?_
      refine x_iload (x := l7) rfl rfl ?_
      refine x_inv (N := m_X12_dayOf) (As := [.int l7]) (b := 125) (st := []) (dx9 := 3) (mc := 0) (ms := 0) (host := "") 12 rfl t_X12_dayOf ⟨Or.inl q_12_335, i_X12_dayOf.1, i_X12_dayOf.2⟩ ⟨by decide, rfl⟩ (congrArg Prod.fst (J.1.1 125 (12, 92) rfl)) rfl (by decide) rfl rfl ⟨by decide, by decide⟩ (jC.of rfl k_X12_dayOf rfl ?_)
      show jX m_X12_dayOf 3 0 0 0 [(0, .ref 125), (1, .int l7)] [] _ 0 0 _
      refine x_aloadn (x := 125) rfl rfl ?_
      refine z_getR (N := 92) (b := 126) 12 2 rfl f_12_8 rfl J rfl 16002 ⟨rfl, rfl⟩ rfl ?_
      refine x_aloadn (x := 125) rfl rfl ?_
      refine x_iloadn (x := l7) rfl rfl ?_
      refine x_inv (N := m_X12_at) (As := [.int l7]) (b := 125) (st := [.ref 126]) (dx9 := 2) (mc := 0) (ms := 0) (host := "") 12 rfl t_X12_at ⟨Or.inl q_12_254, i_X12_at.1, i_X12_at.2⟩ ⟨by decide, rfl⟩ (congrArg Prod.fst (J.1.1 125 (12, 92) rfl)) rfl (by decide) rfl rfl ⟨by decide, by decide⟩ (jC.of rfl k_X12_at rfl ?_)
      show jX m_X12_at 2 0 0 0 [(0, .ref 125), (1, .int l7)] [] _ 0 0 _
      refine x_bipush (v := 20) rfl kb_20 ?_
      refine x_bipush (v := 90) rfl kb_90 ?_
      refine x_iloadn (x := l7) rfl rfl ?_
      refine z_imul rfl jk_90 rfl (by omega) (fun v3 ev3 => ?_)
      refine z_iadd rfl jk_20 rfl (by omega) (fun v4 ev4 => ?_)
      refine x_iret rfl rfl ?_
      show jX m_X12_dayOf 3 0 0 9 [(0, .ref 125), (1, .int l7)] [.int v4, .ref 126] _ 0 0 _
      refine x_iconst (v := 2) rfl ki_2 ?_
      refine z_iadd rfl rfl jk_2 (by omega) (fun v5 ev5 => ?_)
      refine z_iald (N := 50660) rfl J rfl sg_126_20_18020_90_2_3 rfl (by omega) (fun v6 qv6 ev6 => ?_)
      refine x_iret rfl rfl ?_
      show jX m_X12_found 4 0 0 131 [(0, .ref 125), (1, .int l1), (2, .long l2), (4, .long l4), (6, .int l6), (7, .int l7)] [.int v6] _ 0 0 _
      refine x_sipush (v := 366) rfl ks_366 ?_
      refine z_idiv rfl rfl jk_366 (by omega) (by omega) (fun v7 ev7 => ?_)
      refine x_iloadn (x := l1) rfl rfl ?_
      refine x_icne (tgt := 156) rfl rfl (ti_ne rfl rfl ⟨fun c8 => ?_, fun c8 => ?_⟩)
      ·
        exact jX.sub (jsb_c rfl (jsb_c rfl (jsb_c rfl (jsb_c rfl (jsb_c rfl (jsb_c rfl jsb_n)))))) (ct_X12_found_r125_156 hD hQ ih l1 l2 l4 l6 l7 h (jr_of rfl (by omega)) (jr_of rfl (by omega)) (by omega) (by omega) J Sm)
      ·
        refine z_iinc0 (x := l6) (lsx9 := fun v9 => [(6, .int v9), (0, .ref 125), (1, .int l1), (2, .long l2), (4, .long l4), (7, .int l7)]) rfl rfl rfl (fun _ => rfl) (fun v9 => ?_)
        have ev9 := jfull v9
        refine x_lloadn (x := l2) rfl rfl ?_
        refine x_iload (x := v9) rfl rfl ?_
        refine z_i2l rfl rfl (fun v10 ev10 => ?_)
        refine z_lmul0 rfl (fun v11 => ?_)
        have ev11 := jfullL v11
        refine x_lload (x := l4) rfl rfl ?_
        refine z_lcmp rfl rfl rfl (fun v12 ev12 => ?_)
        refine x_ifne (tgt := 156) rfl rfl (ti_ne rfl jk_0 ⟨fun c13 => ?_, fun c13 => ?_⟩)
        ·
          exact jX.sub (jsb_c rfl (jsb_c rfl (jsb_c rfl (jsb_c rfl (jsb_c rfl (jsb_c rfl jsb_n)))))) (ct_X12_found_r125_156 hD hQ ih l1 l2 l4 v9 l7 h (jr_of rfl (by omega)) (jr_of rfl (by omega)) (by omega) (by omega) J Sm)
        ·
          refine x_iload (x := l7) rfl rfl ?_
          refine x_iret rfl rfl ?_
          exact hQ _ _ (jr_of rfl (by omega)) J Sm
set_option maxRecDepth 100000 in
set_option maxHeartbeats 4000000 in
theorem ct_X12_found_r125_107 {Dy : jH → Prop} {h0 : jH} {Q : Option Value → jH → Prop} (hD : jDk Dy) (hQ : ∀ (v : Int32) hx9, (-3) ≤ v.toInt ∧ v.toInt ≤ 199 → jJ jSgM Dy hx9 → jSm fp_X12_found_r125 h0 hx9 → Q (some (.int v)) hx9) : ∀ (h : jH), jJ jSgM Dy h → jSm fp_X12_found_r125 h0 h → jX m_X12_found 4 0 0 107 [] [.int (-2)] h 0 0 Q := by
  intro  h    J Sm
  refine x_iret rfl rfl ?_
  exact hQ _ _ (jr_of jk_m2 (by omega)) J Sm
set_option maxRecDepth 100000 in
set_option maxHeartbeats 4000000 in
theorem ct_X12_found_r125_100107 {Dy : jH → Prop} {h0 : jH} {Q : Option Value → jH → Prop} (hD : jDk Dy) (hQ : ∀ (v : Int32) hx9, (-3) ≤ v.toInt ∧ v.toInt ≤ 199 → jJ jSgM Dy hx9 → jSm fp_X12_found_r125 h0 hx9 → Q (some (.int v)) hx9) : ∀ (h : jH), jJ jSgM Dy h → jSm fp_X12_found_r125 h0 h → jX m_X12_found 4 0 0 107 [] [.int (-1)] h 0 0 Q := by
  intro  h    J Sm
  refine x_iret rfl rfl ?_
  exact hQ _ _ (jr_of jk_m1 (by omega)) J Sm
set_option maxRecDepth 100000 in
set_option maxHeartbeats 4000000 in
theorem sf_X12_found_r125 {Dy : jH → Prop} {h : jH} {Q : Option Value → jH → Prop} {a1 : Int32} (hD : jDk Dy) (J : jJ jSgM Dy h) (hQ : ∀ (v : Int32) hx9, (-3) ≤ v.toInt ∧ v.toInt ≤ 199 → jJ jSgM Dy hx9 → jSm fp_X12_found_r125 h hx9 → Q (some (.int v)) hx9) : jC m_X12_found 4 0 0 [.ref 125, .int a1] h Q := by
  refine jC.of rfl k_X12_found rfl ?_
  have Sm := jSm_rf fp_X12_found_r125 h
  have ea1 := jfull a1
  show jX m_X12_found 4 0 0 0 [(0, .ref 125), (1, .int a1)] [] _ 0 0 _
  refine x_aloadn (x := 125) rfl rfl ?_
  refine x_iconst (v := 0) rfl ki_0 ?_
  refine z_putI (N := 92) (w := 0) 12 0 rfl f_12_180 rfl (jfin_no TX12 RX12 92 rfl rfl) hD J Sm rfl rfl jk_0 (pw_125_0 (by omega)) rfl (fun h w1 J Sm => ?_)
  refine x_iloadn (x := a1) rfl rfl ?_
  refine x_inst (N := m_X12_isYear) (As := [.int a1]) (st := []) (dx9 := 2) (mc := 0) (ms := 0) (host := "") rfl t_X12_isYear ⟨Or.inl q_12_817, s_X12_isYear⟩ rfl (by decide) rfl rfl ⟨by decide, by decide⟩ (zc_X12_isYear (d := 1) rfl (fun v2 ev2 => ?_))
  show jX m_X12_found 4 0 0 9 [(0, .ref 125), (1, .int a1)] [.int v2] _ 0 0 _
  refine x_ifeq (tgt := 25) rfl rfl (ti_eq rfl jk_0 ⟨fun c3 => ?_, fun c3 => ?_⟩)
  ·
    exact jX.sub jsb_n (ct_X12_found_r125_25 hD hQ  h J Sm)
  ·
    refine x_aloadn (x := 125) rfl rfl ?_
    refine z_getR (N := 92) (b := 129) 12 5 rfl f_12_22 rfl J rfl 16005 ⟨rfl, rfl⟩ rfl ?_
    refine x_iconst (v := 4) rfl ki_4 ?_
    refine x_iloadn (x := a1) rfl rfl ?_
    refine z_imul rfl jk_4 rfl (by omega) (fun v4 ev4 => ?_)
    refine z_lald0 (N := 1600) rfl J rfl rfl (by omega) (fun v5 => ?_)
    have ev5 := jfullL v5
    refine x_lconst (v := 0) rfl kl_0 ?_
    refine z_lcmp rfl rfl jkl_0 (fun v6 ev6 => ?_)
    refine x_ifne (tgt := 28) rfl rfl (ti_ne rfl jk_0 ⟨fun c7 => ?_, fun c7 => ?_⟩)
    ·
      refine x_aloadn (x := 125) rfl rfl ?_
      refine x_iloadn (x := a1) rfl rfl ?_
      refine x_inv (N := m_X12_addYear) (As := [.int a1]) (b := 125) (st := []) (dx9 := 3) (mc := 0) (ms := 0) (host := "") 12 rfl t_X12_addYear ⟨Or.inl q_12_872, i_X12_addYear.1, i_X12_addYear.2⟩ ⟨by decide, rfl⟩ (congrArg Prod.fst (J.1.1 125 (12, 92) rfl)) rfl (by decide) rfl rfl ⟨by decide, by decide⟩ (sf_X12_addYear_r125 (jr_of rfl (by omega)) hD J  (fun h J S8 => ?_))
      have Sm := jSm_tr rfl Sm S8
      show jX m_X12_found 4 0 0 33 [(0, .ref 125), (1, .int a1)] [] _ 0 0 _
      refine x_aloadn (x := 125) rfl rfl ?_
      refine z_getI0 (N := 92) 12 89 rfl f_12_863 rfl J rfl (fun v9 qv9 => ?_)
      have ev9 := jfull v9
      refine z_i2l rfl rfl (fun v10 ev10 => ?_)
      refine x_aloadn (x := 125) rfl rfl ?_
      refine z_getR (N := 92) (b := 129) 12 5 rfl f_12_22 rfl J rfl 16005 ⟨rfl, rfl⟩ rfl ?_
      refine x_iconst (v := 4) rfl ki_4 ?_
      refine x_iloadn (x := a1) rfl rfl ?_
      refine z_imul rfl jk_4 rfl (by omega) (fun v11 ev11 => ?_)
      refine x_iconst (v := 1) rfl ki_1 ?_
      refine z_iadd rfl rfl jk_1 (by omega) (fun v12 ev12 => ?_)
      refine z_lald0 (N := 1600) rfl J rfl rfl (by omega) (fun v13 => ?_)
      have ev13 := jfullL v13
      refine z_lcmp rfl rfl rfl (fun v14 ev14 => ?_)
      refine x_ifeq (tgt := 55) rfl rfl (ti_eq rfl jk_0 ⟨fun c15 => ?_, fun c15 => ?_⟩)
      ·
        refine x_aloadn (x := 125) rfl rfl ?_
        refine z_getL0 (N := 92) 12 90 rfl f_12_866 rfl J rfl (fun v16 => ?_)
        have ev16 := jfullL v16
        refine x_aloadn (x := 125) rfl rfl ?_
        refine z_getR (N := 92) (b := 129) 12 5 rfl f_12_22 rfl J rfl 16005 ⟨rfl, rfl⟩ rfl ?_
        refine x_iconst (v := 4) rfl ki_4 ?_
        refine x_iloadn (x := a1) rfl rfl ?_
        refine z_imul rfl jk_4 rfl (by omega) (fun v17 ev17 => ?_)
        refine x_iconst (v := 2) rfl ki_2 ?_
        refine z_iadd rfl rfl jk_2 (by omega) (fun v18 ev18 => ?_)
        refine z_lald0 (N := 1600) rfl J rfl rfl (by omega) (fun v19 => ?_)
        have ev19 := jfullL v19
        refine z_lsub0 rfl (fun v20 => ?_)
        have ev20 := jfullL v20
        refine x_lstoren (lsx9 := [(2, .long v20), (0, .ref 125), (1, .int a1)]) rfl rfl rfl ?_
        refine x_aloadn (x := 125) rfl rfl ?_
        refine z_getL0 (N := 92) 12 91 rfl f_12_869 rfl J rfl (fun v21 => ?_)
        have ev21 := jfullL v21
        refine x_aloadn (x := 125) rfl rfl ?_
        refine z_getR (N := 92) (b := 129) 12 5 rfl f_12_22 rfl J rfl 16005 ⟨rfl, rfl⟩ rfl ?_
        refine x_iconst (v := 4) rfl ki_4 ?_
        refine x_iloadn (x := a1) rfl rfl ?_
        refine z_imul rfl jk_4 rfl (by omega) (fun v22 ev22 => ?_)
        refine x_iconst (v := 3) rfl ki_3 ?_
        refine z_iadd rfl rfl jk_3 (by omega) (fun v23 ev23 => ?_)
        refine z_lald0 (N := 1600) rfl J rfl rfl (by omega) (fun v24 => ?_)
        have ev24 := jfullL v24
        refine z_lsub0 rfl (fun v25 => ?_)
        have ev25 := jfullL v25
        refine x_lstore (lsx9 := [(4, .long v25), (2, .long v20), (0, .ref 125), (1, .int a1)]) rfl rfl rfl ?_
        refine x_lloadn (x := v20) rfl rfl ?_
        refine x_lconst (v := 0) rfl kl_0 ?_
        refine z_lcmp rfl rfl jkl_0 (fun v26 ev26 => ?_)
        refine x_ifne (tgt := 108) rfl rfl (ti_ne rfl jk_0 ⟨fun c27 => ?_, fun c27 => ?_⟩)
        ·
          refine x_iconst (v := 0) rfl ki_0 ?_
          refine x_istore (lsx9 := [(6, .int 0), (4, .long v25), (2, .long v20), (0, .ref 125), (1, .int a1)]) rfl rfl rfl ?_
          refine x_iconst (v := 0) rfl ki_0 ?_
          refine x_istore (lsx9 := [(7, .int 0), (6, .int 0), (4, .long v25), (2, .long v20), (0, .ref 125), (1, .int a1)]) rfl rfl rfl ?_
          exact jX.sub (jsb_c rfl (jsb_c rfl (jsb_c rfl (jsb_c rfl (jsb_c rfl (jsb_c rfl jsb_n)))))) (ct_X12_found_r125_114 hD hQ  201 a1 v20 v25 0 0 h (by have := jk_0; omega) (jr_of rfl (by omega)) (jr_of jk_0 (by omega)) (by omega) J Sm)
        ·
          refine x_lload (x := v25) rfl rfl ?_
          refine x_lconst (v := 0) rfl kl_0 ?_
          refine z_lcmp rfl rfl jkl_0 (fun v28 ev28 => ?_)
          refine x_ifne (tgt := 105) rfl rfl (ti_ne rfl jk_0 ⟨fun c29 => ?_, fun c29 => ?_⟩)
          ·
            refine x_bipush (v := (-2)) rfl kb_m2 ?_
            exact jX.sub jsb_n (ct_X12_found_r125_107 hD hQ  h J Sm)
          ·
            refine x_iconst (v := (-1)) rfl ki_m1 ?_
            refine x_goto (tgt := 107) rfl rfl ?_
            exact jX.sub jsb_n (ct_X12_found_r125_100107 hD hQ  h J Sm)
      ·
        refine x_bipush (v := (-2)) rfl kb_m2 ?_
        refine x_iret rfl rfl ?_
        exact hQ _ _ (jr_of jk_m2 (by omega)) J Sm
    ·
      exact jX.sub jsb_n (ct_X12_found_r125_25 hD hQ  h J Sm)
def fp_X12_group_r125 : jFp := [(125, 0, 1), (125, 28, 29), (125, 31, 32), (125, 43, 44), (125, 44, 45), (125, 45, 46), (125, 46, 47), (125, 57, 58), (137, 0, 80), (138, 0, 2), (139, 0, 600), (140, 0, 200), (142, 0, 81), (143, 0, 81), (144, 0, 81), (145, 0, 9), (146, 0, 9)]
set_option maxRecDepth 100000 in
set_option maxHeartbeats 4000000 in
theorem sf_X12_group_r125 {Dy : jH → Prop} {h : jH} {Q : Option Value → jH → Prop} {a1 : Int32} (hD : jDk Dy) (J : jJ jSgM Dy h) (hQ : ∀ (v : Int32) hx9, (-1) ≤ v.toInt ∧ v.toInt ≤ 8 → jJ jSgM Dy hx9 → jSm fp_X12_group_r125 h hx9 → Q (some (.int v)) hx9) : jC m_X12_group 11 0 0 [.ref 125, .int a1] h Q := by
  refine jC.of rfl k_X12_group rfl ?_
  have Sm := jSm_rf fp_X12_group_r125 h
  have ea1 := jfull a1
  show jX m_X12_group 11 0 0 0 [(0, .ref 125), (1, .int a1)] [] _ 0 0 _
  refine x_aloadn (x := 125) rfl rfl ?_
  refine x_iconst (v := 0) rfl ki_0 ?_
  refine z_putI (N := 92) (w := 0) 12 0 rfl f_12_180 rfl (jfin_no TX12 RX12 92 rfl rfl) hD J Sm rfl rfl jk_0 (pw_125_0 (by omega)) rfl (fun h w1 J Sm => ?_)
  refine x_iloadn (x := a1) rfl rfl ?_
  refine z_i2l rfl rfl (fun v2 ev2 => ?_)
  refine x_lconst (v := 0) rfl kl_0 ?_
  refine x_aloadn (x := 125) rfl rfl ?_
  refine z_getI (N := 92) 12 36 rfl f_12_204 rfl J rfl sg_125_36_37_1_0_1 (fun v3 qv3 ev3 => ?_)
  refine z_i2l rfl rfl (fun v4 ev4 => ?_)
  refine x_lconst (v := 1) rfl kl_1 ?_
  refine z_lsub rfl rfl jkl_1 (by omega) (fun v5 ev5 => ?_)
  refine x_inst (N := m_X12_in) (As := [.long v2, .long 0, .long v5]) (st := []) (dx9 := 1) (mc := 0) (ms := 0) (host := "") rfl t_X12_in ⟨Or.inl q_12_188, s_X12_in⟩ rfl (by decide) rfl rfl ⟨by decide, by decide⟩ (zc_X12_in rfl jkl_0 rfl (fun v6 ev6 => ?_))
  show jX m_X12_group 11 0 0 18 [(0, .ref 125), (1, .int a1)] [.int v6] _ 0 0 _
  refine x_ifne (tgt := 23) rfl rfl (ti_ne rfl jk_0 ⟨fun c7 => ?_, fun c7 => ?_⟩)
  ·
    refine x_aloadn (x := 125) rfl rfl ?_
    refine x_iconst (v := 0) rfl ki_0 ?_
    refine x_inv (N := m_X12_findBest) (As := [.int 0]) (b := 125) (st := []) (dx9 := 10) (mc := 0) (ms := 0) (host := "") 12 rfl t_X12_findBest ⟨Or.inl q_12_468, i_X12_findBest.1, i_X12_findBest.2⟩ ⟨by decide, rfl⟩ (congrArg Prod.fst (J.1.1 125 (12, 92) rfl)) rfl (by decide) rfl rfl ⟨by decide, by decide⟩ (sf_X12_findBest_r125  hD J  (fun h J S8 => ?_))
    have Sm := jSm_tr rfl Sm S8
    show jX m_X12_group 11 0 0 28 [(0, .ref 125), (1, .int a1)] [] _ 0 0 _
    refine x_aloadn (x := 125) rfl rfl ?_
    refine z_getR (N := 92) (b := 146) 12 42 rfl f_12_93 rfl J rfl 16042 ⟨rfl, rfl⟩ rfl ?_
    refine x_iloadn (x := a1) rfl rfl ?_
    refine z_iald (N := 9) rfl J rfl sg_146_0_9_1_0_1 rfl (by omega) (fun v9 qv9 ev9 => ?_)
    refine x_iret rfl rfl ?_
    exact hQ _ _ (jr_of rfl (by omega)) J Sm
  ·
    refine x_iconst (v := (-1)) rfl ki_m1 ?_
    refine x_iret rfl rfl ?_
    exact hQ _ _ (jr_of jk_m1 (by omega)) J Sm
def fp_X12_hold_r125 : jFp := [(125, 0, 1), (125, 1, 2), (126, 10, 11), (126, 47900, 48300)]
set_option maxRecDepth 100000 in
set_option maxHeartbeats 4000000 in
theorem ct_X12_hold_r125_20 {Dy : jH → Prop} {h0 : jH} {Q : Option Value → jH → Prop} (hD : jDk Dy) (hQ : ∀ (v : Int32) hx9, jJ jSgM Dy hx9 → jSm fp_X12_hold_r125 h0 hx9 → Q (some (.int v)) hx9) : ∀ (h : jH), jJ jSgM Dy h → jSm fp_X12_hold_r125 h0 h → jX m_X12_hold 4 0 0 20 [(0, .ref 125)] [] h 0 0 Q := by
  intro  h    J Sm
  refine x_aloadn (x := 125) rfl rfl ?_
  refine x_iconst (v := (-1)) rfl ki_m1 ?_
  refine x_inv (N := m_X12_told) (As := [.int (-1)]) (b := 125) (st := []) (dx9 := 1) (mc := 0) (ms := 0) (host := "") 12 rfl t_X12_told ⟨Or.inl q_12_197, i_X12_told.1, i_X12_told.2⟩ ⟨by decide, rfl⟩ (congrArg Prod.fst (J.1.1 125 (12, 92) rfl)) rfl (by decide) rfl rfl ⟨by decide, by decide⟩ (sf_X12_told_r125  hD J  (fun v2 h J S1 => ?_))
  have ev2 := jfull v2
  have Sm := jSm_tr rfl Sm S1
  show jX m_X12_hold 4 0 0 25 [(0, .ref 125)] [.int v2] _ 0 0 _
  refine x_iret rfl rfl ?_
  exact hQ _ _ J Sm
set_option maxRecDepth 100000 in
set_option maxHeartbeats 4000000 in
theorem ct_X12_hold_r125_47 {Dy : jH → Prop} {h0 : jH} {Q : Option Value → jH → Prop} (hD : jDk Dy) (hQ : ∀ (v : Int32) hx9, jJ jSgM Dy hx9 → jSm fp_X12_hold_r125 h0 hx9 → Q (some (.int v)) hx9) : ∀ (h : jH), jJ jSgM Dy h → jSm fp_X12_hold_r125 h0 h → jX m_X12_hold 4 0 0 47 [(0, .ref 125)] [] h 0 0 Q := by
  intro  h    J Sm
  refine x_aloadn (x := 125) rfl rfl ?_
  refine x_bipush (v := (-2)) rfl kb_m2 ?_
  refine x_inv (N := m_X12_told) (As := [.int (-2)]) (b := 125) (st := []) (dx9 := 1) (mc := 0) (ms := 0) (host := "") 12 rfl t_X12_told ⟨Or.inl q_12_197, i_X12_told.1, i_X12_told.2⟩ ⟨by decide, rfl⟩ (congrArg Prod.fst (J.1.1 125 (12, 92) rfl)) rfl (by decide) rfl rfl ⟨by decide, by decide⟩ (sf_X12_told_r125  hD J  (fun v2 h J S1 => ?_))
  have ev2 := jfull v2
  have Sm := jSm_tr rfl Sm S1
  show jX m_X12_hold 4 0 0 53 [(0, .ref 125)] [.int v2] _ 0 0 _
  refine x_iret rfl rfl ?_
  exact hQ _ _ J Sm
set_option maxRecDepth 100000 in
set_option maxHeartbeats 4000000 in
theorem ct_X12_hold_r125_54 {Dy : jH → Prop} {h0 : jH} {Q : Option Value → jH → Prop} (hD : jDk Dy) (hQ : ∀ (v : Int32) hx9, jJ jSgM Dy hx9 → jSm fp_X12_hold_r125 h0 hx9 → Q (some (.int v)) hx9) : ∀ (l1 : Int32) (l2 : Int32) (l3 : Int32) (l4 : Int32) (h : jH), 0 ≤ l1.toInt ∧ l1.toInt ≤ 39 → (-1) ≤ l2.toInt ∧ l2.toInt ≤ 599 → 0 ≤ l3.toInt ∧ l3.toInt ≤ 146399 → 0 ≤ l4.toInt ∧ l4.toInt ≤ 146399 → jJ jSgM Dy h → jSm fp_X12_hold_r125 h0 h → jX m_X12_hold 4 0 0 54 [(0, .ref 125), (1, .int l1), (2, .int l2), (3, .int l3), (4, .int l4)] [] h 0 0 Q := by
  intro l1 l2 l3 l4 h y0 y1 y2 y3   J Sm
  refine x_aloadn (x := 125) rfl rfl ?_
  refine z_getR (N := 92) (b := 126) 12 2 rfl f_12_8 rfl J rfl 16002 ⟨rfl, rfl⟩ rfl ?_
  refine x_bipush (v := 10) rfl kb_10 ?_
  refine z_iald (N := 50660) rfl J rfl sg_126_10_11_1_0_1 jk_10 (by omega) (fun v1 qv1 ev1 => ?_)
  refine x_bipush (v := 100) rfl kb_100 ?_
  refine x_icne (tgt := 73) rfl rfl (ti_ne rfl jk_100 ⟨fun c2 => ?_, fun c2 => ?_⟩)
  ·
    refine x_aloadn (x := 125) rfl rfl ?_
    refine x_ldcw (v := 47900) rfl z_12_808 ?_
    refine x_iconst (v := 4) rfl ki_4 ?_
    refine x_aloadn (x := 125) rfl rfl ?_
    refine z_getR (N := 92) (b := 126) 12 2 rfl f_12_8 rfl J rfl 16002 ⟨rfl, rfl⟩ rfl ?_
    refine x_bipush (v := 10) rfl kb_10 ?_
    refine z_ialdM (N := 50660) (v := v1) rfl J rfl jk_10 (by omega) qv1 ?_
    refine z_imul rfl jk_4 rfl (by omega) (fun v3 ev3 => ?_)
    refine z_iadd rfl jk_47900 rfl (by omega) (fun v4 ev4 => ?_)
    refine x_iloadn (x := l1) rfl rfl ?_
    refine x_iloadn (x := l2) rfl rfl ?_
    refine x_iloadn (x := l3) rfl rfl ?_
    refine x_iload (x := l4) rfl rfl ?_
    refine x_inv (N := m_X12_addFour) (As := [.int v4, .int l1, .int l2, .int l3, .int l4]) (b := 125) (st := []) (dx9 := 3) (mc := 0) (ms := 0) (host := "") 12 rfl t_X12_addFour ⟨Or.inl q_12_814, i_X12_addFour.1, i_X12_addFour.2⟩ ⟨by decide, rfl⟩ (congrArg Prod.fst (J.1.1 125 (12, 92) rfl)) rfl (by decide) rfl rfl ⟨by decide, by decide⟩ (jC.of rfl k_X12_addFour rfl ?_)
    show jX m_X12_addFour 3 0 0 0 [(0, .ref 125), (1, .int v4), (2, .int l1), (3, .int l2), (4, .int l3), (5, .int l4)] [] _ 0 0 _
    refine x_aloadn (x := 125) rfl rfl ?_
    refine z_getR (N := 92) (b := 126) 12 2 rfl f_12_8 rfl J rfl 16002 ⟨rfl, rfl⟩ rfl ?_
    refine x_iloadn (x := v4) rfl rfl ?_
    refine x_iloadn (x := l1) rfl rfl ?_
    refine z_iast (N := 50660) (l := 47900) (u := 48300) (w := l1.toInt) rfl hD J Sm rfl rfl rfl (by omega) rfl (wr_126_47900 (by omega) (fun q1 q2 q3 q4 => by omega) (fun q1 q2 q3 q4 => by omega) (fun q1 q2 q3 q4 => by omega) (fun q1 q2 q3 q4 => by omega)) rfl (fun h w5 J Sm => ?_)
    refine x_aloadn (x := 125) rfl rfl ?_
    refine z_getR (N := 92) (b := 126) 12 2 rfl f_12_8 rfl J rfl 16002 ⟨rfl, rfl⟩ rfl ?_
    refine x_iloadn (x := v4) rfl rfl ?_
    refine x_iconst (v := 1) rfl ki_1 ?_
    refine z_iadd rfl rfl jk_1 (by omega) (fun v6 ev6 => ?_)
    refine x_iloadn (x := l2) rfl rfl ?_
    refine z_iast (N := 50660) (l := 47900) (u := 48300) (w := l2.toInt) rfl hD J Sm rfl rfl rfl (by omega) rfl (wr_126_47900 (by omega) (fun q1 q2 q3 q4 => by omega) (fun q1 q2 q3 q4 => by omega) (fun q1 q2 q3 q4 => by omega) (fun q1 q2 q3 q4 => by omega)) rfl (fun h w7 J Sm => ?_)
    refine x_aloadn (x := 125) rfl rfl ?_
    refine z_getR (N := 92) (b := 126) 12 2 rfl f_12_8 rfl J rfl 16002 ⟨rfl, rfl⟩ rfl ?_
    refine x_iloadn (x := v4) rfl rfl ?_
    refine x_iconst (v := 2) rfl ki_2 ?_
    refine z_iadd rfl rfl jk_2 (by omega) (fun v8 ev8 => ?_)
    refine x_iload (x := l3) rfl rfl ?_
    refine z_iast (N := 50660) (l := 47900) (u := 48300) (w := l3.toInt) rfl hD J Sm rfl rfl rfl (by omega) rfl (wr_126_47900 (by omega) (fun q1 q2 q3 q4 => by omega) (fun q1 q2 q3 q4 => by omega) (fun q1 q2 q3 q4 => by omega) (fun q1 q2 q3 q4 => by omega)) rfl (fun h w9 J Sm => ?_)
    refine x_aloadn (x := 125) rfl rfl ?_
    refine z_getR (N := 92) (b := 126) 12 2 rfl f_12_8 rfl J rfl 16002 ⟨rfl, rfl⟩ rfl ?_
    refine x_iloadn (x := v4) rfl rfl ?_
    refine x_iconst (v := 3) rfl ki_3 ?_
    refine z_iadd rfl rfl jk_3 (by omega) (fun v10 ev10 => ?_)
    refine x_iload (x := l4) rfl rfl ?_
    refine z_iast (N := 50660) (l := 47900) (u := 48300) (w := l4.toInt) rfl hD J Sm rfl rfl rfl (by omega) rfl (wr_126_47900 (by omega) (fun q1 q2 q3 q4 => by omega) (fun q1 q2 q3 q4 => by omega) (fun q1 q2 q3 q4 => by omega) (fun q1 q2 q3 q4 => by omega)) rfl (fun h w11 J Sm => ?_)
    refine x_vret rfl rfl ?_
    show jX m_X12_hold 4 0 0 95 [(0, .ref 125), (1, .int l1), (2, .int l2), (3, .int l3), (4, .int l4)] [] _ 0 0 _
    refine x_aloadn (x := 125) rfl rfl ?_
    refine z_getR (N := 92) (b := 126) 12 2 rfl f_12_8 rfl J rfl 16002 ⟨rfl, rfl⟩ rfl ?_
    refine x_bipush (v := 10) rfl kb_10 ?_
    refine x_dup2 rfl rfl rfl ?_
    refine z_ialdM (N := 50660) (v := v1) rfl J rfl jk_10 (by omega) (jmo2 w11 rfl jk_10 (by omega) (jmo2 w9 rfl jk_10 (by omega) (jmo2 w7 rfl jk_10 (by omega) (jmo2 w5 rfl jk_10 (by omega) qv1)))) ?_
    refine x_iconst (v := 1) rfl ki_1 ?_
    refine z_iadd rfl rfl jk_1 (by omega) (fun v12 ev12 => ?_)
    refine z_iast (N := 50660) (l := 10) (u := 11) (w := v12.toInt) rfl hD J Sm rfl rfl jk_10 (by omega) rfl (wr_126_10 (by omega) (fun q1 q2 q3 q4 => by omega)) rfl (fun h w13 J Sm => ?_)
    refine x_aloadn (x := 125) rfl rfl ?_
    refine x_aloadn (x := 125) rfl rfl ?_
    refine z_getR (N := 92) (b := 126) 12 2 rfl f_12_8 rfl J rfl 16002 ⟨rfl, rfl⟩ rfl ?_
    refine x_bipush (v := 10) rfl kb_10 ?_
    refine z_ialdM (N := 50660) (v := v12) rfl J rfl jk_10 (by omega) (jmw w13) ?_
    refine x_inv (N := m_X12_told) (As := [.int v12]) (b := 125) (st := []) (dx9 := 1) (mc := 0) (ms := 0) (host := "") 12 rfl t_X12_told ⟨Or.inl q_12_197, i_X12_told.1, i_X12_told.2⟩ ⟨by decide, rfl⟩ (congrArg Prod.fst (J.1.1 125 (12, 92) rfl)) rfl (by decide) rfl rfl ⟨by decide, by decide⟩ (sf_X12_told_r125  hD J  (fun v15 h J S14 => ?_))
    have ev15 := jfull v15
    have Sm := jSm_tr rfl Sm S14
    show jX m_X12_hold 4 0 0 117 [(0, .ref 125), (1, .int l1), (2, .int l2), (3, .int l3), (4, .int l4)] [.int v15] _ 0 0 _
    refine x_iret rfl rfl ?_
    exact hQ _ _ J Sm
  ·
    refine x_aloadn (x := 125) rfl rfl ?_
    refine x_bipush (v := (-5)) rfl kb_m5 ?_
    refine x_inv (N := m_X12_told) (As := [.int (-5)]) (b := 125) (st := []) (dx9 := 1) (mc := 0) (ms := 0) (host := "") 12 rfl t_X12_told ⟨Or.inl q_12_197, i_X12_told.1, i_X12_told.2⟩ ⟨by decide, rfl⟩ (congrArg Prod.fst (J.1.1 125 (12, 92) rfl)) rfl (by decide) rfl rfl ⟨by decide, by decide⟩ (sf_X12_told_r125  hD J  (fun v17 h J S16 => ?_))
    have ev17 := jfull v17
    have Sm := jSm_tr rfl Sm S16
    show jX m_X12_hold 4 0 0 72 [(0, .ref 125), (1, .int l1), (2, .int l2), (3, .int l3), (4, .int l4)] [.int v17] _ 0 0 _
    refine x_iret rfl rfl ?_
    exact hQ _ _ J Sm
set_option maxRecDepth 100000 in
set_option maxHeartbeats 4000000 in
theorem sf_X12_hold_r125 {Dy : jH → Prop} {h : jH} {Q : Option Value → jH → Prop} {a1 : Int32} {a2 : Int32} {a3 : Int32} {a4 : Int32} (hD : jDk Dy) (J : jJ jSgM Dy h) (hQ : ∀ (v : Int32) hx9, jJ jSgM Dy hx9 → jSm fp_X12_hold_r125 h hx9 → Q (some (.int v)) hx9) : jC m_X12_hold 4 0 0 [.ref 125, .int a1, .int a2, .int a3, .int a4] h Q := by
  refine jC.of rfl k_X12_hold rfl ?_
  have Sm := jSm_rf fp_X12_hold_r125 h
  have ea1 := jfull a1
  have ea2 := jfull a2
  have ea3 := jfull a3
  have ea4 := jfull a4
  show jX m_X12_hold 4 0 0 0 [(0, .ref 125), (1, .int a1), (2, .int a2), (3, .int a3), (4, .int a4)] [] _ 0 0 _
  refine x_aloadn (x := 125) rfl rfl ?_
  refine x_iconst (v := 0) rfl ki_0 ?_
  refine z_putI (N := 92) (w := 0) 12 0 rfl f_12_180 rfl (jfin_no TX12 RX12 92 rfl rfl) hD J Sm rfl rfl jk_0 (pw_125_0 (by omega)) rfl (fun h w1 J Sm => ?_)
  refine x_iloadn (x := a3) rfl rfl ?_
  refine x_inst (N := m_X12_isDay) (As := [.int a3]) (st := []) (dx9 := 2) (mc := 0) (ms := 0) (host := "") rfl t_X12_isDay ⟨Or.inl q_12_273, s_X12_isDay⟩ rfl (by decide) rfl rfl ⟨by decide, by decide⟩ (zc_X12_isDay (d := 1) rfl (fun v2 ev2 => ?_))
  show jX m_X12_hold 4 0 0 9 [(0, .ref 125), (1, .int a1), (2, .int a2), (3, .int a3), (4, .int a4)] [.int v2] _ 0 0 _
  refine x_ifeq (tgt := 20) rfl rfl (ti_eq rfl jk_0 ⟨fun c3 => ?_, fun c3 => ?_⟩)
  ·
    exact jX.sub (jsb_c rfl jsb_n) (ct_X12_hold_r125_20 hD hQ  h J Sm)
  ·
    refine x_iload (x := a4) rfl rfl ?_
    refine x_inst (N := m_X12_isDay) (As := [.int a4]) (st := []) (dx9 := 2) (mc := 0) (ms := 0) (host := "") rfl t_X12_isDay ⟨Or.inl q_12_273, s_X12_isDay⟩ rfl (by decide) rfl rfl ⟨by decide, by decide⟩ (zc_X12_isDay (d := 1) rfl (fun v4 ev4 => ?_))
    show jX m_X12_hold 4 0 0 17 [(0, .ref 125), (1, .int a1), (2, .int a2), (3, .int a3), (4, .int a4)] [.int v4] _ 0 0 _
    refine x_ifne (tgt := 26) rfl rfl (ti_ne rfl jk_0 ⟨fun c5 => ?_, fun c5 => ?_⟩)
    ·
      refine x_aloadn (x := 125) rfl rfl ?_
      refine x_iloadn (x := a1) rfl rfl ?_
      refine x_inv (N := m_X12_isHolding) (As := [.int a1]) (b := 125) (st := []) (dx9 := 3) (mc := 0) (ms := 0) (host := "") 12 rfl t_X12_isHolding ⟨Or.inl q_12_811, i_X12_isHolding.1, i_X12_isHolding.2⟩ ⟨by decide, rfl⟩ (congrArg Prod.fst (J.1.1 125 (12, 92) rfl)) rfl (by decide) rfl rfl ⟨by decide, by decide⟩ (jC.of rfl k_X12_isHolding rfl ?_)
      show jX m_X12_isHolding 3 0 0 0 [(0, .ref 125), (1, .int a1)] [] _ 0 0 _
      refine x_iloadn (x := a1) rfl rfl ?_
      refine z_i2l rfl rfl (fun v6 ev6 => ?_)
      refine x_lconst (v := 0) rfl kl_0 ?_
      refine x_aloadn (x := 125) rfl rfl ?_
      refine z_getR (N := 92) (b := 126) 12 2 rfl f_12_8 rfl J rfl 16002 ⟨rfl, rfl⟩ rfl ?_
      refine x_bipush (v := 7) rfl kb_7 ?_
      refine z_iald (N := 50660) rfl J rfl sg_126_7_8_1_0_1 jk_7 (by omega) (fun v7 qv7 ev7 => ?_)
      refine z_i2l rfl rfl (fun v8 ev8 => ?_)
      refine x_lconst (v := 1) rfl kl_1 ?_
      refine z_lsub rfl rfl jkl_1 (by omega) (fun v9 ev9 => ?_)
      refine x_inst (N := m_X12_in) (As := [.long v6, .long 0, .long v9]) (st := []) (dx9 := 1) (mc := 0) (ms := 0) (host := "") rfl t_X12_in ⟨Or.inl q_12_188, s_X12_in⟩ rfl (by decide) rfl rfl ⟨by decide, by decide⟩ (zc_X12_in rfl jkl_0 rfl (fun v10 ev10 => ?_))
      show jX m_X12_isHolding 3 0 0 16 [(0, .ref 125), (1, .int a1)] [.int v10] _ 0 0 _
      refine x_zret rfl rfl (jz01 (by omega)) ?_
      show jX m_X12_hold 4 0 0 31 [(0, .ref 125), (1, .int a1), (2, .int a2), (3, .int a3), (4, .int a4)] [.int v10] _ 0 0 _
      refine x_ifeq (tgt := 47) rfl rfl (ti_eq rfl jk_0 ⟨fun c11 => ?_, fun c11 => ?_⟩)
      ·
        exact jX.sub (jsb_c rfl jsb_n) (ct_X12_hold_r125_47 hD hQ  h J Sm)
      ·
        refine x_iloadn (x := a2) rfl rfl ?_
        refine x_iconst (v := (-1)) rfl ki_m1 ?_
        refine x_iceq (tgt := 54) rfl rfl (ti_eq rfl jk_m1 ⟨fun c12 => ?_, fun c12 => ?_⟩)
        ·
          exact jX.sub (jsb_c rfl (jsb_c rfl (jsb_c rfl (jsb_c rfl (jsb_c rfl jsb_n))))) (ct_X12_hold_r125_54 hD hQ  a1 a2 a3 a4 h (jr_of rfl (by omega)) (jr_of rfl (by omega)) (jr_of rfl (by omega)) (jr_of rfl (by omega)) J Sm)
        ·
          refine x_aloadn (x := 125) rfl rfl ?_
          refine x_iloadn (x := a2) rfl rfl ?_
          refine x_inv (N := m_X12_isMention) (As := [.int a2]) (b := 125) (st := []) (dx9 := 3) (mc := 0) (ms := 0) (host := "") 12 rfl t_X12_isMention ⟨Or.inl q_12_322, i_X12_isMention.1, i_X12_isMention.2⟩ ⟨by decide, rfl⟩ (congrArg Prod.fst (J.1.1 125 (12, 92) rfl)) rfl (by decide) rfl rfl ⟨by decide, by decide⟩ (jC.of rfl k_X12_isMention rfl ?_)
          show jX m_X12_isMention 3 0 0 0 [(0, .ref 125), (1, .int a2)] [] _ 0 0 _
          refine x_iloadn (x := a2) rfl rfl ?_
          refine x_iflt (tgt := 34) rfl rfl (ti_lt rfl jk_0 ⟨fun c13 => ?_, fun c13 => ?_⟩)
          ·
            refine x_iconst (v := 0) rfl ki_0 ?_
            refine x_zret rfl rfl (by decide) ?_
            show jX m_X12_hold 4 0 0 44 [(0, .ref 125), (1, .int a1), (2, .int a2), (3, .int a3), (4, .int a4)] [.int 0] _ 0 0 _
            refine x_ifne (tgt := 54) rfl rfl (ti_ne jk_0 jk_0 (bn_f (by omega) ?_))
            exact jX.sub (jsb_c rfl jsb_n) (ct_X12_hold_r125_47 hD hQ  h J Sm)
          ·
            refine x_aloadn (x := 125) rfl rfl ?_
            refine x_iloadn (x := a2) rfl rfl ?_
            refine x_iconst (v := 3) rfl ki_3 ?_
            refine z_idiv rfl rfl jk_3 (by omega) (by omega) (fun v14 ev14 => ?_)
            refine x_inv (N := m_X12_isLine) (As := [.int v14]) (b := 125) (st := []) (dx9 := 2) (mc := 0) (ms := 0) (host := "") 12 rfl t_X12_isLine ⟨Or.inl q_12_293, i_X12_isLine.1, i_X12_isLine.2⟩ ⟨by decide, rfl⟩ (congrArg Prod.fst (J.1.1 125 (12, 92) rfl)) rfl (by decide) rfl rfl ⟨by decide, by decide⟩ (jC.of rfl k_X12_isLine rfl ?_)
            show jX m_X12_isLine 2 0 0 0 [(0, .ref 125), (1, .int v14)] [] _ 0 0 _
            refine x_iloadn (x := v14) rfl rfl ?_
            refine z_i2l rfl rfl (fun v15 ev15 => ?_)
            refine x_lconst (v := 0) rfl kl_0 ?_
            refine x_aloadn (x := 125) rfl rfl ?_
            refine z_getR (N := 92) (b := 126) 12 2 rfl f_12_8 rfl J rfl 16002 ⟨rfl, rfl⟩ rfl ?_
            refine x_iconst (v := 0) rfl ki_0 ?_
            refine z_iald (N := 50660) rfl J rfl sg_126_0_1_1_0_1 jk_0 (by omega) (fun v16 qv16 ev16 => ?_)
            refine z_i2l rfl rfl (fun v17 ev17 => ?_)
            refine x_lconst (v := 1) rfl kl_1 ?_
            refine z_lsub rfl rfl jkl_1 (by omega) (fun v18 ev18 => ?_)
            refine x_inst (N := m_X12_in) (As := [.long v15, .long 0, .long v18]) (st := []) (dx9 := 1) (mc := 0) (ms := 0) (host := "") rfl t_X12_in ⟨Or.inl q_12_188, s_X12_in⟩ rfl (by decide) rfl rfl ⟨by decide, by decide⟩ (zc_X12_in rfl jkl_0 rfl (fun v19 ev19 => ?_))
            show jX m_X12_isLine 2 0 0 15 [(0, .ref 125), (1, .int v14)] [.int v19] _ 0 0 _
            refine x_zret rfl rfl (jz01 (by omega)) ?_
            show jX m_X12_isMention 3 0 0 11 [(0, .ref 125), (1, .int a2)] [.int v19] _ 0 0 _
            refine x_ifeq (tgt := 34) rfl rfl (ti_eq rfl jk_0 ⟨fun c20 => ?_, fun c20 => ?_⟩)
            ·
              refine x_iconst (v := 0) rfl ki_0 ?_
              refine x_zret rfl rfl (by decide) ?_
              show jX m_X12_hold 4 0 0 44 [(0, .ref 125), (1, .int a1), (2, .int a2), (3, .int a3), (4, .int a4)] [.int 0] _ 0 0 _
              refine x_ifne (tgt := 54) rfl rfl (ti_ne jk_0 jk_0 (bn_f (by omega) ?_))
              exact jX.sub (jsb_c rfl jsb_n) (ct_X12_hold_r125_47 hD hQ  h J Sm)
            ·
              refine x_iloadn (x := a2) rfl rfl ?_
              refine x_iconst (v := 3) rfl ki_3 ?_
              refine z_irem rfl rfl jk_3 (by omega) (by omega) (fun v21 ev21 => ?_)
              refine x_aloadn (x := 125) rfl rfl ?_
              refine x_iloadn (x := a2) rfl rfl ?_
              refine x_iconst (v := 3) rfl ki_3 ?_
              refine z_idiv rfl rfl jk_3 (by omega) (by omega) (fun v22 ev22 => ?_)
              refine x_inv (N := m_X12_bookOf) (As := [.int v22]) (b := 125) (st := [.int v21]) (dx9 := 2) (mc := 0) (ms := 0) (host := "") 12 rfl t_X12_bookOf ⟨Or.inl q_12_299, i_X12_bookOf.1, i_X12_bookOf.2⟩ ⟨by decide, rfl⟩ (congrArg Prod.fst (J.1.1 125 (12, 92) rfl)) rfl (by decide) rfl rfl ⟨by decide, by decide⟩ (jC.of rfl k_X12_bookOf rfl ?_)
              show jX m_X12_bookOf 2 0 0 0 [(0, .ref 125), (1, .int v22)] [] _ 0 0 _
              refine x_aloadn (x := 125) rfl rfl ?_
              refine z_getR (N := 92) (b := 126) 12 2 rfl f_12_8 rfl J rfl 16002 ⟨rfl, rfl⟩ rfl ?_
              refine x_aloadn (x := 125) rfl rfl ?_
              refine x_iloadn (x := v22) rfl rfl ?_
              refine x_inv (N := m_X12_at) (As := [.int v22]) (b := 125) (st := [.ref 126]) (dx9 := 1) (mc := 0) (ms := 0) (host := "") 12 rfl t_X12_at ⟨Or.inl q_12_254, i_X12_at.1, i_X12_at.2⟩ ⟨by decide, rfl⟩ (congrArg Prod.fst (J.1.1 125 (12, 92) rfl)) rfl (by decide) rfl rfl ⟨by decide, by decide⟩ (jC.of rfl k_X12_at rfl ?_)
              show jX m_X12_at 1 0 0 0 [(0, .ref 125), (1, .int v22)] [] _ 0 0 _
              refine x_bipush (v := 20) rfl kb_20 ?_
              refine x_bipush (v := 90) rfl kb_90 ?_
              refine x_iloadn (x := v22) rfl rfl ?_
              refine z_imul rfl jk_90 rfl (by omega) (fun v23 ev23 => ?_)
              refine z_iadd rfl jk_20 rfl (by omega) (fun v24 ev24 => ?_)
              refine x_iret rfl rfl ?_
              show jX m_X12_bookOf 2 0 0 9 [(0, .ref 125), (1, .int v22)] [.int v24, .ref 126] _ 0 0 _
              refine z_iald (N := 50660) rfl J rfl sg_126_20_18020_90_0_1 rfl (by omega) (fun v25 qv25 ev25 => ?_)
              refine x_iret rfl rfl ?_
              show jX m_X12_isMention 3 0 0 24 [(0, .ref 125), (1, .int a2)] [.int v25, .int v21] _ 0 0 _
              refine x_inst (N := m_X12_rolesOf) (As := [.int v25]) (st := [.int v21]) (dx9 := 2) (mc := 0) (ms := 0) (host := "") rfl t_X12_rolesOf ⟨Or.inl q_12_286, s_X12_rolesOf⟩ rfl (by decide) rfl rfl ⟨by decide, by decide⟩ (jC.of rfl k_X12_rolesOf rfl ?_)
              show jX m_X12_rolesOf 2 0 0 0 [(0, .int v25)] [] _ 0 0 _
              refine x_iloadn (x := v25) rfl rfl ?_
              refine x_ifne (tgt := 8) rfl rfl (ti_ne rfl jk_0 ⟨fun c26 => ?_, fun c26 => ?_⟩)
              ·
                refine x_iloadn (x := v25) rfl rfl ?_
                refine x_iconst (v := 1) rfl ki_1 ?_
                refine x_icne (tgt := 17) rfl rfl (ti_ne rfl jk_1 ⟨fun c27 => ?_, fun c27 => ?_⟩)
                ·
                  refine x_iconst (v := 1) rfl ki_1 ?_
                  refine x_iret rfl rfl ?_
                  show jX m_X12_isMention 3 0 0 27 [(0, .ref 125), (1, .int a2)] [.int 1, .int v21] _ 0 0 _
                  refine x_icge (tgt := 34) rfl rfl (ti_ge rfl jk_1 ⟨fun c28 => ?_, fun c28 => ?_⟩)
                  ·
                    refine x_iconst (v := 0) rfl ki_0 ?_
                    refine x_zret rfl rfl (by decide) ?_
                    show jX m_X12_hold 4 0 0 44 [(0, .ref 125), (1, .int a1), (2, .int a2), (3, .int a3), (4, .int a4)] [.int 0] _ 0 0 _
                    refine x_ifne (tgt := 54) rfl rfl (ti_ne jk_0 jk_0 (bn_f (by omega) ?_))
                    exact jX.sub (jsb_c rfl jsb_n) (ct_X12_hold_r125_47 hD hQ  h J Sm)
                  ·
                    refine x_iconst (v := 1) rfl ki_1 ?_
                    refine x_goto (tgt := 35) rfl rfl ?_
                    refine x_zret rfl rfl (by decide) ?_
                    show jX m_X12_hold 4 0 0 44 [(0, .ref 125), (1, .int a1), (2, .int a2), (3, .int a3), (4, .int a4)] [.int 1] _ 0 0 _
                    refine x_ifne (tgt := 54) rfl rfl (ti_ne jk_1 jk_0 (bn_t (by omega) ?_))
                    exact jX.sub (jsb_c rfl (jsb_c rfl (jsb_c rfl (jsb_c rfl (jsb_c rfl jsb_n))))) (ct_X12_hold_r125_54 hD hQ  a1 a2 a3 a4 h (jr_of rfl (by omega)) (jr_of rfl (by omega)) (jr_of rfl (by omega)) (jr_of rfl (by omega)) J Sm)
                ·
                  refine x_iconst (v := 2) rfl ki_2 ?_
                  refine x_goto (tgt := 18) rfl rfl ?_
                  refine x_iret rfl rfl ?_
                  show jX m_X12_isMention 3 0 0 27 [(0, .ref 125), (1, .int a2)] [.int 2, .int v21] _ 0 0 _
                  refine x_icge (tgt := 34) rfl rfl (ti_ge rfl jk_2 ⟨fun c29 => ?_, fun c29 => ?_⟩)
                  ·
                    refine x_iconst (v := 0) rfl ki_0 ?_
                    refine x_zret rfl rfl (by decide) ?_
                    show jX m_X12_hold 4 0 0 44 [(0, .ref 125), (1, .int a1), (2, .int a2), (3, .int a3), (4, .int a4)] [.int 0] _ 0 0 _
                    refine x_ifne (tgt := 54) rfl rfl (ti_ne jk_0 jk_0 (bn_f (by omega) ?_))
                    exact jX.sub (jsb_c rfl jsb_n) (ct_X12_hold_r125_47 hD hQ  h J Sm)
                  ·
                    refine x_iconst (v := 1) rfl ki_1 ?_
                    refine x_goto (tgt := 35) rfl rfl ?_
                    refine x_zret rfl rfl (by decide) ?_
                    show jX m_X12_hold 4 0 0 44 [(0, .ref 125), (1, .int a1), (2, .int a2), (3, .int a3), (4, .int a4)] [.int 1] _ 0 0 _
                    refine x_ifne (tgt := 54) rfl rfl (ti_ne jk_1 jk_0 (bn_t (by omega) ?_))
                    exact jX.sub (jsb_c rfl (jsb_c rfl (jsb_c rfl (jsb_c rfl (jsb_c rfl jsb_n))))) (ct_X12_hold_r125_54 hD hQ  a1 a2 a3 a4 h (jr_of rfl (by omega)) (jr_of rfl (by omega)) (jr_of rfl (by omega)) (jr_of rfl (by omega)) J Sm)
              ·
                refine x_iconst (v := 3) rfl ki_3 ?_
                refine x_goto (tgt := 18) rfl rfl ?_
                refine x_iret rfl rfl ?_
                show jX m_X12_isMention 3 0 0 27 [(0, .ref 125), (1, .int a2)] [.int 3, .int v21] _ 0 0 _
                refine x_icge (tgt := 34) rfl rfl (ti_ge rfl jk_3 (br_f (by omega) ?_))
                refine x_iconst (v := 1) rfl ki_1 ?_
                refine x_goto (tgt := 35) rfl rfl ?_
                refine x_zret rfl rfl (by decide) ?_
                show jX m_X12_hold 4 0 0 44 [(0, .ref 125), (1, .int a1), (2, .int a2), (3, .int a3), (4, .int a4)] [.int 1] _ 0 0 _
                refine x_ifne (tgt := 54) rfl rfl (ti_ne jk_1 jk_0 (bn_t (by omega) ?_))
                exact jX.sub (jsb_c rfl (jsb_c rfl (jsb_c rfl (jsb_c rfl (jsb_c rfl jsb_n))))) (ct_X12_hold_r125_54 hD hQ  a1 a2 a3 a4 h (jr_of rfl (by omega)) (jr_of rfl (by omega)) (jr_of rfl (by omega)) (jr_of rfl (by omega)) J Sm)
    ·
      exact jX.sub (jsb_c rfl jsb_n) (ct_X12_hold_r125_20 hD hQ  h J Sm)
def fp_X12_holding_r125 : jFp := [(125, 0, 1), (125, 1, 2), (126, 7, 8), (126, 16, 17), (126, 49920, 50660)]
set_option maxRecDepth 100000 in
set_option maxHeartbeats 4000000 in
theorem sf_X12_holding_r125 {Dy : jH → Prop} {h : jH} {Q : Option Value → jH → Prop} (hD : jDk Dy) (J : jJ jSgM Dy h) {p0 p1 p2 p3 p4 : Int32} {p5 p6 : Int32} (zp0 : jiv h 126 (16 : Int32).toNatClampNeg = p0) (zp1 : jiv h 126 (0 : Int32).toNatClampNeg = p1) (zp2 : jiv h 126 (4 : Int32).toNatClampNeg = p2) (zp3 : jiv h 126 (5 : Int32).toNatClampNeg = p3) (zp4 : jiv h 126 (7 : Int32).toNatClampNeg = p4) (rl_p0 : p0.toInt = p1.toInt + p2.toInt + p3.toInt + p4.toInt) (zp5 : jiv h 126 (9 : Int32).toNatClampNeg = p5) (zp6 : jiv h 126 (7 : Int32).toNatClampNeg = p6) (rl_p5 : p5.toInt ≤ p6.toInt) (hQ : ∀ (v : Int32) hx9, jJ jSgM Dy hx9 → jSm fp_X12_holding_r125 h hx9 → ∀ u0 u1 u2 u3 u4 : Int32, jiv hx9 126 (16 : Int32).toNatClampNeg = u0 → jiv hx9 126 (0 : Int32).toNatClampNeg = u1 → jiv hx9 126 (4 : Int32).toNatClampNeg = u2 → jiv hx9 126 (5 : Int32).toNatClampNeg = u3 → jiv hx9 126 (7 : Int32).toNatClampNeg = u4 → u0.toInt = u1.toInt + u2.toInt + u3.toInt + u4.toInt → ∀ u5 u6 : Int32, jiv hx9 126 (9 : Int32).toNatClampNeg = u5 → jiv hx9 126 (7 : Int32).toNatClampNeg = u6 → u5.toInt ≤ u6.toInt → Q (some (.int v)) hx9) : jC m_X12_holding 2 0 0 [.ref 125] h Q := by
  refine jC.of rfl k_X12_holding rfl ?_
  have Sm := jSm_rf fp_X12_holding_r125 h
  have ep0 := (show 0 ≤ p0.toInt ∧ p0.toInt ≤ 370 from zp0 ▸ jrg_c J sg_126_16_17_1_0_1 jk_16 (by omega))
  have ep1 := (show 0 ≤ p1.toInt ∧ p1.toInt ≤ 200 from zp1 ▸ jrg_c J sg_126_0_1_1_0_1 jk_0 (by omega))
  have ep2 := (show 0 ≤ p2.toInt ∧ p2.toInt ≤ 30 from zp2 ▸ jrg_c J sg_126_4_5_1_0_1 jk_4 (by omega))
  have ep3 := (show 0 ≤ p3.toInt ∧ p3.toInt ≤ 100 from zp3 ▸ jrg_c J sg_126_5_6_1_0_1 jk_5 (by omega))
  have ep4 := (show 0 ≤ p4.toInt ∧ p4.toInt ≤ 40 from zp4 ▸ jrg_c J sg_126_7_8_1_0_1 jk_7 (by omega))
  have ep5 := (show 0 ≤ p5.toInt ∧ p5.toInt ≤ 40 from zp5 ▸ jrg_c J sg_126_9_10_1_0_1 jk_9 (by omega))
  have ep6 := (show 0 ≤ p6.toInt ∧ p6.toInt ≤ 40 from zp6 ▸ jrg_c J sg_126_7_8_1_0_1 jk_7 (by omega))
  obtain rfl : p4 = p6 := zp4.symm.trans zp6
  show jX m_X12_holding 2 0 0 0 [(0, .ref 125)] [] _ 0 0 _
  refine x_aloadn (x := 125) rfl rfl ?_
  refine x_iconst (v := 0) rfl ki_0 ?_
  refine z_putI (N := 92) (w := 0) 12 0 rfl f_12_180 rfl (jfin_no TX12 RX12 92 rfl rfl) hD J Sm rfl rfl jk_0 (pw_125_0 (by omega)) rfl (fun h w1 J Sm => ?_)
  refine x_aloadn (x := 125) rfl rfl ?_
  refine z_getR (N := 92) (b := 126) 12 2 rfl f_12_8 rfl J rfl 16002 ⟨rfl, rfl⟩ rfl ?_
  refine x_bipush (v := 7) rfl kb_7 ?_
  refine z_ialdM (N := 50660) (v := p4) rfl J rfl jk_7 (by omega) (jmo w1 rfl zp4) ?_
  refine x_bipush (v := 40) rfl kb_40 ?_
  refine x_icne (tgt := 24) rfl rfl (ti_ne rfl jk_40 ⟨fun c2 => ?_, fun c2 => ?_⟩)
  ·
    refine x_aloadn (x := 125) rfl rfl ?_
    refine z_getR (N := 92) (b := 126) 12 2 rfl f_12_8 rfl J rfl 16002 ⟨rfl, rfl⟩ rfl ?_
    refine x_bipush (v := 7) rfl kb_7 ?_
    refine x_dup2 rfl rfl rfl ?_
    refine z_ialdM (N := 50660) (v := p4) rfl J rfl jk_7 (by omega) (jmo w1 rfl zp4) ?_
    refine x_iconst (v := 1) rfl ki_1 ?_
    refine z_iadd rfl rfl jk_1 (by omega) (fun v3 ev3 => ?_)
    refine z_iast (N := 50660) (l := 7) (u := 8) (w := v3.toInt) rfl hD J Sm rfl rfl jk_7 (by omega) rfl (wr_126_7 (by omega) (fun q1 q2 q3 q4 => by omega)) rfl (fun h w4 J Sm => ?_)
    refine x_aloadn (x := 125) rfl rfl ?_
    refine x_iconst (v := 3) rfl ki_3 ?_
    refine x_aloadn (x := 125) rfl rfl ?_
    refine z_getR (N := 92) (b := 126) 12 2 rfl f_12_8 rfl J rfl 16002 ⟨rfl, rfl⟩ rfl ?_
    refine x_bipush (v := 7) rfl kb_7 ?_
    refine z_ialdM (N := 50660) (v := v3) rfl J rfl jk_7 (by omega) (jmw w4) ?_
    refine x_iconst (v := 1) rfl ki_1 ?_
    refine z_isub rfl rfl jk_1 (by omega) (fun v5 ev5 => ?_)
    refine x_inv (N := m_X12_thing) (As := [.int 3, .int v5]) (b := 125) (st := []) (dx9 := 1) (mc := 0) (ms := 0) (host := "") 12 rfl t_X12_thing ⟨Or.inl q_12_289, i_X12_thing.1, i_X12_thing.2⟩ ⟨by decide, rfl⟩ (congrArg Prod.fst (J.1.1 125 (12, 92) rfl)) rfl (by decide) rfl rfl ⟨by decide, by decide⟩ (jC.of rfl k_X12_thing rfl ?_)
    show jX m_X12_thing 1 0 0 0 [(0, .ref 125), (1, .int 3), (2, .int v5)] [] _ 0 0 _
    refine x_ldc (v := 49920) rfl z_12_194 ?_
    refine x_iconst (v := 2) rfl ki_2 ?_
    refine x_aloadn (x := 125) rfl rfl ?_
    refine z_getR (N := 92) (b := 126) 12 2 rfl f_12_8 rfl J rfl 16002 ⟨rfl, rfl⟩ rfl ?_
    refine x_bipush (v := 16) rfl kb_16 ?_
    refine z_ialdM (N := 50660) (v := p0) rfl J rfl jk_16 (by omega) (jmo2 w4 jk_7 jk_16 (by omega) (jmo w1 rfl zp0)) ?_
    refine z_imul rfl jk_2 rfl (by omega) (fun v6 ev6 => ?_)
    refine z_iadd rfl jk_49920 rfl (by omega) (fun v7 ev7 => ?_)
    refine x_istoren (lsx9 := [(3, .int v7), (0, .ref 125), (1, .int 3), (2, .int v5)]) rfl rfl rfl ?_
    refine x_aloadn (x := 125) rfl rfl ?_
    refine z_getR (N := 92) (b := 126) 12 2 rfl f_12_8 rfl J rfl 16002 ⟨rfl, rfl⟩ rfl ?_
    refine x_iloadn (x := v7) rfl rfl ?_
    refine x_iloadn (x := 3) rfl rfl ?_
    refine z_iast (N := 50660) (l := 49920) (u := 50660) (w := 3) rfl hD J Sm rfl rfl rfl (by omega) jk_3 (wr_126_49920 (by omega) (fun q1 q2 q3 q4 => by omega) (fun q1 q2 q3 q4 => by omega)) rfl (fun h w8 J Sm => ?_)
    refine x_aloadn (x := 125) rfl rfl ?_
    refine z_getR (N := 92) (b := 126) 12 2 rfl f_12_8 rfl J rfl 16002 ⟨rfl, rfl⟩ rfl ?_
    refine x_iloadn (x := v7) rfl rfl ?_
    refine x_iconst (v := 1) rfl ki_1 ?_
    refine z_iadd rfl rfl jk_1 (by omega) (fun v9 ev9 => ?_)
    refine x_iloadn (x := v5) rfl rfl ?_
    refine z_iast (N := 50660) (l := 49920) (u := 50660) (w := v5.toInt) rfl hD J Sm rfl rfl rfl (by omega) rfl (wr_126_49920 (by omega) (fun q1 q2 q3 q4 => by omega) (fun q1 q2 q3 q4 => by omega)) rfl (fun h w10 J Sm => ?_)
    refine x_aloadn (x := 125) rfl rfl ?_
    refine z_getR (N := 92) (b := 126) 12 2 rfl f_12_8 rfl J rfl 16002 ⟨rfl, rfl⟩ rfl ?_
    refine x_bipush (v := 16) rfl kb_16 ?_
    refine x_dup2 rfl rfl rfl ?_
    refine z_ialdM (N := 50660) (v := p0) rfl J rfl jk_16 (by omega) (jmo2 w10 rfl jk_16 (by omega) (jmo2 w8 rfl jk_16 (by omega) (jmo2 w4 jk_7 jk_16 (by omega) (jmo w1 rfl zp0)))) ?_
    refine x_iconst (v := 1) rfl ki_1 ?_
    refine z_iadd rfl rfl jk_1 (by omega) (fun v11 ev11 => ?_)
    refine z_iast (N := 50660) (l := 16) (u := 17) (w := v11.toInt) rfl hD J Sm rfl rfl jk_16 (by omega) rfl (wr_126_16 (by omega) (fun q1 q2 q3 q4 => by omega)) rfl (fun h w12 J Sm => ?_)
    refine x_vret rfl rfl ?_
    show jX m_X12_holding 2 0 0 49 [(0, .ref 125)] [] _ 0 0 _
    refine x_aloadn (x := 125) rfl rfl ?_
    refine x_aloadn (x := 125) rfl rfl ?_
    refine z_getR (N := 92) (b := 126) 12 2 rfl f_12_8 rfl J rfl 16002 ⟨rfl, rfl⟩ rfl ?_
    refine x_bipush (v := 7) rfl kb_7 ?_
    refine z_ialdM (N := 50660) (v := v3) rfl J rfl jk_7 (by omega) (jmo2 w12 jk_16 jk_7 (by omega) (jmo2 w10 rfl jk_7 (by omega) (jmo2 w8 rfl jk_7 (by omega) (jmw w4)))) ?_
    refine x_iconst (v := 1) rfl ki_1 ?_
    refine z_isub rfl rfl jk_1 (by omega) (fun v13 ev13 => ?_)
    refine x_inv (N := m_X12_told) (As := [.int v13]) (b := 125) (st := []) (dx9 := 1) (mc := 0) (ms := 0) (host := "") 12 rfl t_X12_told ⟨Or.inl q_12_197, i_X12_told.1, i_X12_told.2⟩ ⟨by decide, rfl⟩ (congrArg Prod.fst (J.1.1 125 (12, 92) rfl)) rfl (by decide) rfl rfl ⟨by decide, by decide⟩ (sf_X12_told_r125  hD J  (fun v15 h J S14 => ?_))
    have ev15 := jfull v15
    have Sm := jSm_tr rfl Sm S14
    show jX m_X12_holding 2 0 0 62 [(0, .ref 125)] [.int v15] _ 0 0 _
    refine x_iret rfl rfl ?_
    exact hQ _ _ J Sm _ _ _ _ _ (jmc S14 rfl (jmw w12)) (jmc S14 rfl (jmo2 w12 jk_16 jk_0 (by omega) (jmo2 w10 rfl jk_0 (by omega) (jmo2 w8 rfl jk_0 (by omega) (jmo2 w4 jk_7 jk_0 (by omega) (jmo w1 rfl zp1)))))) (jmc S14 rfl (jmo2 w12 jk_16 jk_4 (by omega) (jmo2 w10 rfl jk_4 (by omega) (jmo2 w8 rfl jk_4 (by omega) (jmo2 w4 jk_7 jk_4 (by omega) (jmo w1 rfl zp2)))))) (jmc S14 rfl (jmo2 w12 jk_16 jk_5 (by omega) (jmo2 w10 rfl jk_5 (by omega) (jmo2 w8 rfl jk_5 (by omega) (jmo2 w4 jk_7 jk_5 (by omega) (jmo w1 rfl zp3)))))) (jmc S14 rfl (jmo2 w12 jk_16 jk_7 (by omega) (jmo2 w10 rfl jk_7 (by omega) (jmo2 w8 rfl jk_7 (by omega) (jmw w4))))) (by omega) _ _ (jmc S14 rfl (jmo2 w12 jk_16 jk_9 (by omega) (jmo2 w10 rfl jk_9 (by omega) (jmo2 w8 rfl jk_9 (by omega) (jmo2 w4 jk_7 jk_9 (by omega) (jmo w1 rfl zp5)))))) (jmc S14 rfl (jmo2 w12 jk_16 jk_7 (by omega) (jmo2 w10 rfl jk_7 (by omega) (jmo2 w8 rfl jk_7 (by omega) (jmw w4))))) (by omega)
  ·
    refine x_aloadn (x := 125) rfl rfl ?_
    refine x_bipush (v := (-5)) rfl kb_m5 ?_
    refine x_inv (N := m_X12_told) (As := [.int (-5)]) (b := 125) (st := []) (dx9 := 1) (mc := 0) (ms := 0) (host := "") 12 rfl t_X12_told ⟨Or.inl q_12_197, i_X12_told.1, i_X12_told.2⟩ ⟨by decide, rfl⟩ (congrArg Prod.fst (J.1.1 125 (12, 92) rfl)) rfl (by decide) rfl rfl ⟨by decide, by decide⟩ (sf_X12_told_r125  hD J  (fun v17 h J S16 => ?_))
    have ev17 := jfull v17
    have Sm := jSm_tr rfl Sm S16
    show jX m_X12_holding 2 0 0 23 [(0, .ref 125)] [.int v17] _ 0 0 _
    refine x_iret rfl rfl ?_
    exact hQ _ _ J Sm _ _ _ _ _ (jmc S16 rfl (jmo w1 rfl zp0)) (jmc S16 rfl (jmo w1 rfl zp1)) (jmc S16 rfl (jmo w1 rfl zp2)) (jmc S16 rfl (jmo w1 rfl zp3)) (jmc S16 rfl (jmo w1 rfl zp4)) (by omega) _ _ (jmc S16 rfl (jmo w1 rfl zp5)) (jmc S16 rfl (jmo w1 rfl zp4)) (by omega)
