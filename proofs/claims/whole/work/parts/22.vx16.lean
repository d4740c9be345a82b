def fp_X3_place_r87_c2d : jFp := [(87, 10, 11), (87, 11, 12), (91, 0, 9), (92, 0, 9), (93, 0, 90), (94, 0, 14401)]
set_option maxRecDepth 100000 in
set_option maxHeartbeats 4000000 in
theorem ct_X3_place_r87_c2d_18 {Dy : jH → Prop} {h0 : jH} {Q : Option Value → jH → Prop} {dr : jW} (hD : jDk Dy) (hQ : ∀ hx9, jJ jSgX Dy hx9 → jSm fp_X3_place_r87_c2d h0 hx9 → dr = vw hx9 → Q none hx9) : ∀ (l2 : Int32) (l3 : Int32) (h : jH), 1 ≤ l2.toInt ∧ l2.toInt ≤ 2 → jJ jSgX Dy h → jSm fp_X3_place_r87_c2d h0 h → d_X3_place_r87_c2d_18  l2.toInt l3.toInt (vw h) = dr → jX m_X3_place 10 0 0 18 [(0, .ref 87), (2, .int l2), (3, .int l3)] [] h 0 0 Q := by
  intro l2 l3 h y0   J Sm D
  have el3 := jfull l3
  unfold d_X3_place_r87_c2d_18 at D
  refine x_aloadn (x := 87) rfl rfl ?_
  refine x_iloadn (x := l2) rfl rfl ?_
  refine x_iloadn (x := l3) rfl rfl ?_
  refine x_inv (N := m_X3_note) (As := [.int l2, .int l3]) (b := 87) (st := []) (dx9 := 9) (mc := 0) (ms := 0) (host := "") 3 rfl t_X3_note ⟨Or.inl q_3_93, i_X3_note.1, i_X3_note.2⟩ ⟨by decide, rfl⟩ (congrArg Prod.fst (J.1.1 87 (3, 14) rfl)) rfl (by decide) rfl rfl ⟨by decide, by decide⟩ (jC.of rfl k_X3_note rfl ?_)
  show jX m_X3_note 9 0 0 0 [(0, .ref 87), (1, .int l2), (2, .int l3)] [] _ 0 0 _
  refine x_iloadn (x := l3) rfl rfl ?_
  refine x_iflt (tgt := 23) rfl rfl (ti_lt rfl jk_0 ⟨fun c1 => ?_, fun c1 => ?_⟩)
  ·
    rw [if_pos (by omega)] at D
    refine x_iloadn (x := l3) rfl rfl ?_
    refine x_aloadn (x := 87) rfl rfl ?_
    refine z_getI (N := 14) 3 10 rfl f_3_37 rfl J rfl sg_87_10_11_1_0_1 (fun v2 qv2 ev2 => ?_)
    try rw [vrf qv2] at D
    refine x_icgt (tgt := 47) rfl rfl (ti_gt rfl rfl (br_f (by omega) ?_))
    refine x_iloadn (x := l3) rfl rfl ?_
    refine x_aloadn (x := 87) rfl rfl ?_
    refine z_getM (N := 14) (v := v2) 3 10 rfl f_3_37 rfl J rfl qv2 ?_
    refine x_icne (tgt := 72) rfl rfl (ti_ne rfl rfl ⟨fun c3 => ?_, fun c3 => ?_⟩)
    ·
      rw [if_neg (by omega)] at D
      refine x_vret rfl rfl ?_
      show jX m_X3_place 10 0 0 24 [(0, .ref 87), (2, .int l2), (3, .int l3)] [] _ 0 0 _
      refine x_vret rfl rfl ?_
      exact hQ _ J Sm D.symm
    ·
      rw [if_pos (by omega)] at D
      refine x_iloadn (x := l2) rfl rfl ?_
      refine x_aloadn (x := 87) rfl rfl ?_
      refine z_getI (N := 14) 3 11 rfl f_3_40 rfl J rfl sg_87_11_12_1_0_1 (fun v4 qv4 ev4 => ?_)
      try rw [vrf qv4] at D
      refine x_icge (tgt := 72) rfl rfl (ti_ge rfl rfl ⟨fun c5 => ?_, fun c5 => ?_⟩)
      ·
        rw [if_pos (by omega)] at D
        refine x_vret rfl rfl ?_
        show jX m_X3_place 10 0 0 24 [(0, .ref 87), (2, .int l2), (3, .int l3)] [] _ 0 0 _
        refine x_vret rfl rfl ?_
        exact hQ _ J Sm D.symm
      ·
        rw [if_neg (by omega)] at D
        refine x_aloadn (x := 87) rfl rfl ?_
        refine x_iloadn (x := l3) rfl rfl ?_
        refine z_putI (N := 14) (w := l3.toInt) 3 10 rfl f_3_37 rfl (jfin_no TX3 RX3 14 rfl rfl) hD J Sm rfl rfl rfl (pw_87_10 (by omega)) rfl (fun h w6 J Sm => ?_)
        rw [vwf w6 (show l3.toInt = l3.toInt from by omega)] at D
        refine x_aloadn (x := 87) rfl rfl ?_
        refine x_iloadn (x := l2) rfl rfl ?_
        refine z_putI (N := 14) (w := l2.toInt) 3 11 rfl f_3_40 rfl (jfin_no TX3 RX3 14 rfl rfl) hD J Sm rfl rfl rfl (pw_87_11 (by omega)) rfl (fun h w7 J Sm => ?_)
        rw [vwf w7 (show l2.toInt = l2.toInt from by omega)] at D
        refine x_aloadn (x := 87) rfl rfl ?_
        refine z_getR (N := 14) (b := 91) 3 6 rfl f_3_25 rfl J rfl 11142 ⟨rfl, rfl⟩ rfl ?_
        refine x_iconst (v := 0) rfl ki_0 ?_
        refine x_aloadn (x := 87) rfl rfl ?_
        refine z_getR (N := 14) (b := 92) 3 7 rfl f_3_28 rfl J rfl 11143 ⟨rfl, rfl⟩ rfl ?_
        refine x_iconst (v := 0) rfl ki_0 ?_
        refine x_bipush (v := 9) rfl kb_9 ?_
        refine z_cpi (N1 := 9) (N2 := 9) rfl ⟨q_3_100, jcp_w⟩ (by decide) rfl hD J Sm rfl rfl rfl rfl jk_0 jk_0 jk_9 (by omega) (cp_92 (fun k k1 k2 k3 => by have k4 := k3.1; have k5 := k3.2.1; have k6 := k3.2.2; simp only at k4 k5 k6; exact jcp_in J sg_91_0_9_1_0_1 rfl (by omega) (by decide))) rfl (fun h w8 J Sm => ?_)
        rw [vwk w8 (show (0 : Int) = (0 : Int32).toInt from by decide) (show (0 : Int) = (0 : Int32).toInt from by decide) (show (9 : Int) = (9 : Int32).toInt from by decide)] at D
        refine x_vret rfl rfl ?_
        show jX m_X3_place 10 0 0 24 [(0, .ref 87), (2, .int l2), (3, .int l3)] [] _ 0 0 _
        refine x_vret rfl rfl ?_
        exact hQ _ J Sm D.symm
  ·
    rw [if_neg (by omega)] at D
    refine x_iloadn (x := l3) rfl rfl ?_
    refine x_aloadn (x := 87) rfl rfl ?_
    refine z_getR (N := 14) (b := 94) 3 9 rfl f_3_34 rfl J rfl 11145 ⟨rfl, rfl⟩ rfl ?_
    refine z_alen (N := 14401) (v := 14401) rfl J rfl rfl (by decide) ?_
    refine x_icge (tgt := 23) rfl rfl (ti_ge rfl jk_14401 ⟨fun c9 => ?_, fun c9 => ?_⟩)
    ·
      rw [if_pos (by omega)] at D
      refine x_iloadn (x := l3) rfl rfl ?_
      refine x_aloadn (x := 87) rfl rfl ?_
      refine z_getI (N := 14) 3 10 rfl f_3_37 rfl J rfl sg_87_10_11_1_0_1 (fun v10 qv10 ev10 => ?_)
      try rw [vrf qv10] at D
      refine x_icgt (tgt := 47) rfl rfl (ti_gt rfl rfl ⟨fun c11 => ?_, fun c11 => ?_⟩)
      ·
        rw [if_pos (by omega)] at D
        refine x_aloadn (x := 87) rfl rfl ?_
        refine x_iloadn (x := l3) rfl rfl ?_
        refine z_putI (N := 14) (w := l3.toInt) 3 10 rfl f_3_37 rfl (jfin_no TX3 RX3 14 rfl rfl) hD J Sm rfl rfl rfl (pw_87_10 (by omega)) rfl (fun h w12 J Sm => ?_)
        rw [vwf w12 (show l3.toInt = l3.toInt from by omega)] at D
        refine x_aloadn (x := 87) rfl rfl ?_
        refine x_iloadn (x := l2) rfl rfl ?_
        refine z_putI (N := 14) (w := l2.toInt) 3 11 rfl f_3_40 rfl (jfin_no TX3 RX3 14 rfl rfl) hD J Sm rfl rfl rfl (pw_87_11 (by omega)) rfl (fun h w13 J Sm => ?_)
        rw [vwf w13 (show l2.toInt = l2.toInt from by omega)] at D
        refine x_aloadn (x := 87) rfl rfl ?_
        refine z_getR (N := 14) (b := 91) 3 6 rfl f_3_25 rfl J rfl 11142 ⟨rfl, rfl⟩ rfl ?_
        refine x_iconst (v := 0) rfl ki_0 ?_
        refine x_aloadn (x := 87) rfl rfl ?_
        refine z_getR (N := 14) (b := 92) 3 7 rfl f_3_28 rfl J rfl 11143 ⟨rfl, rfl⟩ rfl ?_
        refine x_iconst (v := 0) rfl ki_0 ?_
        refine x_bipush (v := 9) rfl kb_9 ?_
        refine z_cpi (N1 := 9) (N2 := 9) rfl ⟨q_3_100, jcp_w⟩ (by decide) rfl hD J Sm rfl rfl rfl rfl jk_0 jk_0 jk_9 (by omega) (cp_92 (fun k k1 k2 k3 => by have k4 := k3.1; have k5 := k3.2.1; have k6 := k3.2.2; simp only at k4 k5 k6; exact jcp_in J sg_91_0_9_1_0_1 rfl (by omega) (by decide))) rfl (fun h w14 J Sm => ?_)
        rw [vwk w14 (show (0 : Int) = (0 : Int32).toInt from by decide) (show (0 : Int) = (0 : Int32).toInt from by decide) (show (9 : Int) = (9 : Int32).toInt from by decide)] at D
        refine x_vret rfl rfl ?_
        show jX m_X3_place 10 0 0 24 [(0, .ref 87), (2, .int l2), (3, .int l3)] [] _ 0 0 _
        refine x_vret rfl rfl ?_
        exact hQ _ J Sm D.symm
      ·
        rw [if_neg (by omega)] at D
        refine x_iloadn (x := l3) rfl rfl ?_
        refine x_aloadn (x := 87) rfl rfl ?_
        refine z_getM (N := 14) (v := v10) 3 10 rfl f_3_37 rfl J rfl qv10 ?_
        refine x_icne (tgt := 72) rfl rfl (ti_ne rfl rfl ⟨fun c15 => ?_, fun c15 => ?_⟩)
        ·
          rw [if_neg (by omega)] at D
          refine x_vret rfl rfl ?_
          show jX m_X3_place 10 0 0 24 [(0, .ref 87), (2, .int l2), (3, .int l3)] [] _ 0 0 _
          refine x_vret rfl rfl ?_
          exact hQ _ J Sm D.symm
        ·
          rw [if_pos (by omega)] at D
          refine x_iloadn (x := l2) rfl rfl ?_
          refine x_aloadn (x := 87) rfl rfl ?_
          refine z_getI (N := 14) 3 11 rfl f_3_40 rfl J rfl sg_87_11_12_1_0_1 (fun v16 qv16 ev16 => ?_)
          try rw [vrf qv16] at D
          refine x_icge (tgt := 72) rfl rfl (ti_ge rfl rfl ⟨fun c17 => ?_, fun c17 => ?_⟩)
          ·
            rw [if_pos (by omega)] at D
            refine x_vret rfl rfl ?_
            show jX m_X3_place 10 0 0 24 [(0, .ref 87), (2, .int l2), (3, .int l3)] [] _ 0 0 _
            refine x_vret rfl rfl ?_
            exact hQ _ J Sm D.symm
          ·
            rw [if_neg (by omega)] at D
            refine x_aloadn (x := 87) rfl rfl ?_
            refine x_iloadn (x := l3) rfl rfl ?_
            refine z_putI (N := 14) (w := l3.toInt) 3 10 rfl f_3_37 rfl (jfin_no TX3 RX3 14 rfl rfl) hD J Sm rfl rfl rfl (pw_87_10 (by omega)) rfl (fun h w18 J Sm => ?_)
            rw [vwf w18 (show l3.toInt = l3.toInt from by omega)] at D
            refine x_aloadn (x := 87) rfl rfl ?_
            refine x_iloadn (x := l2) rfl rfl ?_
            refine z_putI (N := 14) (w := l2.toInt) 3 11 rfl f_3_40 rfl (jfin_no TX3 RX3 14 rfl rfl) hD J Sm rfl rfl rfl (pw_87_11 (by omega)) rfl (fun h w19 J Sm => ?_)
            rw [vwf w19 (show l2.toInt = l2.toInt from by omega)] at D
            refine x_aloadn (x := 87) rfl rfl ?_
            refine z_getR (N := 14) (b := 91) 3 6 rfl f_3_25 rfl J rfl 11142 ⟨rfl, rfl⟩ rfl ?_
            refine x_iconst (v := 0) rfl ki_0 ?_
            refine x_aloadn (x := 87) rfl rfl ?_
            refine z_getR (N := 14) (b := 92) 3 7 rfl f_3_28 rfl J rfl 11143 ⟨rfl, rfl⟩ rfl ?_
            refine x_iconst (v := 0) rfl ki_0 ?_
            refine x_bipush (v := 9) rfl kb_9 ?_
            refine z_cpi (N1 := 9) (N2 := 9) rfl ⟨q_3_100, jcp_w⟩ (by decide) rfl hD J Sm rfl rfl rfl rfl jk_0 jk_0 jk_9 (by omega) (cp_92 (fun k k1 k2 k3 => by have k4 := k3.1; have k5 := k3.2.1; have k6 := k3.2.2; simp only at k4 k5 k6; exact jcp_in J sg_91_0_9_1_0_1 rfl (by omega) (by decide))) rfl (fun h w20 J Sm => ?_)
            rw [vwk w20 (show (0 : Int) = (0 : Int32).toInt from by decide) (show (0 : Int) = (0 : Int32).toInt from by decide) (show (9 : Int) = (9 : Int32).toInt from by decide)] at D
            refine x_vret rfl rfl ?_
            show jX m_X3_place 10 0 0 24 [(0, .ref 87), (2, .int l2), (3, .int l3)] [] _ 0 0 _
            refine x_vret rfl rfl ?_
            exact hQ _ J Sm D.symm
    ·
      rw [if_neg (by omega)] at D
      refine x_aloadn (x := 87) rfl rfl ?_
      refine z_getR (N := 14) (b := 94) 3 9 rfl f_3_34 rfl J rfl 11145 ⟨rfl, rfl⟩ rfl ?_
      refine x_iloadn (x := l3) rfl rfl ?_
      refine x_dup2 rfl rfl rfl ?_
      refine z_iald0 (N := 14401) rfl J rfl rfl (by omega) (fun v21 qv21 => ?_)
      have ev21 := jfull v21
      try rw [vrd qv21 (show l3.toInt = l3.toInt from by omega)] at D
      refine x_iconst (v := 1) rfl ki_1 ?_
      refine z_iaddW rfl rfl jk_1 (fun v22 ev22 => ?_)
      have fv22 := jfull v22
      try rw [← ev22] at D
      refine z_iast (N := 14401) (l := 0) (u := 14401) (w := v22.toInt) rfl hD J Sm rfl rfl rfl (by omega) rfl (wr_94) rfl (fun h w23 J Sm => ?_)
      rw [vww w23 (show l3.toInt = l3.toInt from by omega) (show v22.toInt = v22.toInt from by omega)] at D
      refine x_iloadn (x := l3) rfl rfl ?_
      refine x_aloadn (x := 87) rfl rfl ?_
      refine z_getI (N := 14) 3 10 rfl f_3_37 rfl J rfl sg_87_10_11_1_0_1 (fun v24 qv24 ev24 => ?_)
      try rw [vrf (jmb_w w23 qv24 rfl)] at D
      refine x_icgt (tgt := 47) rfl rfl (ti_gt rfl rfl ⟨fun c25 => ?_, fun c25 => ?_⟩)
      ·
        rw [if_pos (by omega)] at D
        refine x_aloadn (x := 87) rfl rfl ?_
        refine x_iloadn (x := l3) rfl rfl ?_
        refine z_putI (N := 14) (w := l3.toInt) 3 10 rfl f_3_37 rfl (jfin_no TX3 RX3 14 rfl rfl) hD J Sm rfl rfl rfl (pw_87_10 (by omega)) rfl (fun h w26 J Sm => ?_)
        rw [vwf w26 (show l3.toInt = l3.toInt from by omega)] at D
        refine x_aloadn (x := 87) rfl rfl ?_
        refine x_iloadn (x := l2) rfl rfl ?_
        refine z_putI (N := 14) (w := l2.toInt) 3 11 rfl f_3_40 rfl (jfin_no TX3 RX3 14 rfl rfl) hD J Sm rfl rfl rfl (pw_87_11 (by omega)) rfl (fun h w27 J Sm => ?_)
        rw [vwf w27 (show l2.toInt = l2.toInt from by omega)] at D
        refine x_aloadn (x := 87) rfl rfl ?_
        refine z_getR (N := 14) (b := 91) 3 6 rfl f_3_25 rfl J rfl 11142 ⟨rfl, rfl⟩ rfl ?_
        refine x_iconst (v := 0) rfl ki_0 ?_
        refine x_aloadn (x := 87) rfl rfl ?_
        refine z_getR (N := 14) (b := 92) 3 7 rfl f_3_28 rfl J rfl 11143 ⟨rfl, rfl⟩ rfl ?_
        refine x_iconst (v := 0) rfl ki_0 ?_
        refine x_bipush (v := 9) rfl kb_9 ?_
        refine z_cpi (N1 := 9) (N2 := 9) rfl ⟨q_3_100, jcp_w⟩ (by decide) rfl hD J Sm rfl rfl rfl rfl jk_0 jk_0 jk_9 (by omega) (cp_92 (fun k k1 k2 k3 => by have k4 := k3.1; have k5 := k3.2.1; have k6 := k3.2.2; simp only at k4 k5 k6; exact jcp_in J sg_91_0_9_1_0_1 rfl (by omega) (by decide))) rfl (fun h w28 J Sm => ?_)
        rw [vwk w28 (show (0 : Int) = (0 : Int32).toInt from by decide) (show (0 : Int) = (0 : Int32).toInt from by decide) (show (9 : Int) = (9 : Int32).toInt from by decide)] at D
        refine x_vret rfl rfl ?_
        show jX m_X3_place 10 0 0 24 [(0, .ref 87), (2, .int l2), (3, .int l3)] [] _ 0 0 _
        refine x_vret rfl rfl ?_
        exact hQ _ J Sm D.symm
      ·
        rw [if_neg (by omega)] at D
        refine x_iloadn (x := l3) rfl rfl ?_
        refine x_aloadn (x := 87) rfl rfl ?_
        refine z_getM (N := 14) (v := v24) 3 10 rfl f_3_37 rfl J rfl qv24 ?_
        refine x_icne (tgt := 72) rfl rfl (ti_ne rfl rfl ⟨fun c29 => ?_, fun c29 => ?_⟩)
        ·
          rw [if_neg (by omega)] at D
          refine x_vret rfl rfl ?_
          show jX m_X3_place 10 0 0 24 [(0, .ref 87), (2, .int l2), (3, .int l3)] [] _ 0 0 _
          refine x_vret rfl rfl ?_
          exact hQ _ J Sm D.symm
        ·
          rw [if_pos (by omega)] at D
          refine x_iloadn (x := l2) rfl rfl ?_
          refine x_aloadn (x := 87) rfl rfl ?_
          refine z_getI (N := 14) 3 11 rfl f_3_40 rfl J rfl sg_87_11_12_1_0_1 (fun v30 qv30 ev30 => ?_)
          try rw [vrf (jmb_w w23 qv30 rfl)] at D
          refine x_icge (tgt := 72) rfl rfl (ti_ge rfl rfl ⟨fun c31 => ?_, fun c31 => ?_⟩)
          ·
            rw [if_pos (by omega)] at D
            refine x_vret rfl rfl ?_
            show jX m_X3_place 10 0 0 24 [(0, .ref 87), (2, .int l2), (3, .int l3)] [] _ 0 0 _
            refine x_vret rfl rfl ?_
            exact hQ _ J Sm D.symm
          ·
            rw [if_neg (by omega)] at D
            refine x_aloadn (x := 87) rfl rfl ?_
            refine x_iloadn (x := l3) rfl rfl ?_
            refine z_putI (N := 14) (w := l3.toInt) 3 10 rfl f_3_37 rfl (jfin_no TX3 RX3 14 rfl rfl) hD J Sm rfl rfl rfl (pw_87_10 (by omega)) rfl (fun h w32 J Sm => ?_)
            rw [vwf w32 (show l3.toInt = l3.toInt from by omega)] at D
            refine x_aloadn (x := 87) rfl rfl ?_
            refine x_iloadn (x := l2) rfl rfl ?_
            refine z_putI (N := 14) (w := l2.toInt) 3 11 rfl f_3_40 rfl (jfin_no TX3 RX3 14 rfl rfl) hD J Sm rfl rfl rfl (pw_87_11 (by omega)) rfl (fun h w33 J Sm => ?_)
            rw [vwf w33 (show l2.toInt = l2.toInt from by omega)] at D
            refine x_aloadn (x := 87) rfl rfl ?_
            refine z_getR (N := 14) (b := 91) 3 6 rfl f_3_25 rfl J rfl 11142 ⟨rfl, rfl⟩ rfl ?_
            refine x_iconst (v := 0) rfl ki_0 ?_
            refine x_aloadn (x := 87) rfl rfl ?_
            refine z_getR (N := 14) (b := 92) 3 7 rfl f_3_28 rfl J rfl 11143 ⟨rfl, rfl⟩ rfl ?_
            refine x_iconst (v := 0) rfl ki_0 ?_
            refine x_bipush (v := 9) rfl kb_9 ?_
            refine z_cpi (N1 := 9) (N2 := 9) rfl ⟨q_3_100, jcp_w⟩ (by decide) rfl hD J Sm rfl rfl rfl rfl jk_0 jk_0 jk_9 (by omega) (cp_92 (fun k k1 k2 k3 => by have k4 := k3.1; have k5 := k3.2.1; have k6 := k3.2.2; simp only at k4 k5 k6; exact jcp_in J sg_91_0_9_1_0_1 rfl (by omega) (by decide))) rfl (fun h w34 J Sm => ?_)
            rw [vwk w34 (show (0 : Int) = (0 : Int32).toInt from by decide) (show (0 : Int) = (0 : Int32).toInt from by decide) (show (9 : Int) = (9 : Int32).toInt from by decide)] at D
            refine x_vret rfl rfl ?_
            show jX m_X3_place 10 0 0 24 [(0, .ref 87), (2, .int l2), (3, .int l3)] [] _ 0 0 _
            refine x_vret rfl rfl ?_
            exact hQ _ J Sm D.symm
set_option maxRecDepth 100000 in
set_option maxHeartbeats 4000000 in
theorem ct_X3_place_r87_c2d_144 {Dy : jH → Prop} {h0 : jH} {Q : Option Value → jH → Prop} {dr : jW} (hD : jDk Dy) (hQ : ∀ hx9, jJ jSgX Dy hx9 → jSm fp_X3_place_r87_c2d h0 hx9 → dr = vw hx9 → Q none hx9) : ∀ (h : jH), jJ jSgX Dy h → jSm fp_X3_place_r87_c2d h0 h → d_X3_place_r87_c2d_144  (vw h) = dr → jX m_X3_place 10 0 0 144 [] [] h 0 0 Q := by
  intro  h    J Sm D
  unfold d_X3_place_r87_c2d_144 at D
  refine x_vret rfl rfl ?_
  exact hQ _ J Sm D.symm
set_option maxRecDepth 100000 in
set_option maxHeartbeats 4000000 in
theorem ct_X3_place_r87_c2d_138 {Dy : jH → Prop} {h0 : jH} {Q : Option Value → jH → Prop} {dr : jW} {K61 : Int → Int → Int → Int → jW → jW} {R61 : Int} (hD : jDk Dy) (hQ : ∀ hx9, jJ jSgX Dy hx9 → jSm fp_X3_place_r87_c2d h0 hx9 → dr = vw hx9 → Q none hx9) (k61 : ∀ (l2 : Int32) (l3 : Int32) (l4 : Int32) (l5 : Int32) (h : jH), 3 - l5.toInt < R61 → 1 ≤ l2.toInt ∧ l2.toInt ≤ 2 → (-1) ≤ l4.toInt ∧ l4.toInt ≤ 8 → 0 ≤ l5.toInt ∧ l5.toInt ≤ 3 → jJ jSgX Dy h → jSm fp_X3_place_r87_c2d h0 h → K61 l2.toInt l3.toInt l4.toInt l5.toInt (vw h) = dr → jX m_X3_place 10 0 0 61 [(0, .ref 87), (1, .int 2), (2, .int l2), (3, .int l3), (4, .int l4), (5, .int l5)] [] h 0 0 Q) : ∀ (l2 : Int32) (l3 : Int32) (l4 : Int32) (l5 : Int32) (h : jH), 1 ≤ l2.toInt ∧ l2.toInt ≤ 2 → (-1) ≤ l4.toInt ∧ l4.toInt ≤ 8 → 0 ≤ l5.toInt ∧ l5.toInt ≤ 2 → 3 - l5.toInt ≤ R61 → jJ jSgX Dy h → jSm fp_X3_place_r87_c2d h0 h → d_X3_place_r87_c2d_138 K61  l2.toInt l3.toInt l4.toInt l5.toInt (vw h) = dr → jX m_X3_place 10 0 0 138 [(0, .ref 87), (1, .int 2), (2, .int l2), (3, .int l3), (4, .int l4), (5, .int l5)] [] h 0 0 Q := by
  intro l2 l3 l4 l5 h y0 y1 y2  m61 J Sm D
  have el3 := jfull l3
  unfold d_X3_place_r87_c2d_138 at D
  refine z_iinc (x := l5) (lsx9 := fun v1 => [(5, .int v1), (0, .ref 87), (1, .int 2), (2, .int l2), (3, .int l3), (4, .int l4)]) rfl rfl rfl jko_1 (by omega) rfl (fun _ => rfl) (fun v1 ev1 => ?_)
  refine x_goto (tgt := 61) rfl rfl ?_
  try rw [show (l5.toInt + 1) = v1.toInt from by omega] at D
  exact jX.sub (jsb_c rfl (jsb_c rfl (jsb_c rfl (jsb_c rfl (jsb_c rfl (jsb_c rfl jsb_n)))))) (k61 l2 l3 l4 v1 h (by omega) (jr_of rfl (by omega)) (jr_of rfl (by omega)) (jr_of rfl (by omega)) J Sm D)
set_option maxRecDepth 100000 in
set_option maxHeartbeats 4000000 in
theorem ct_X3_place_r87_c2d_131 {Dy : jH → Prop} {h0 : jH} {Q : Option Value → jH → Prop} {dr : jW} {K61 : Int → Int → Int → Int → jW → jW} {R61 : Int} (hD : jDk Dy) (hQ : ∀ hx9, jJ jSgX Dy hx9 → jSm fp_X3_place_r87_c2d h0 hx9 → dr = vw hx9 → Q none hx9) (k61 : ∀ (l2 : Int32) (l3 : Int32) (l4 : Int32) (l5 : Int32) (h : jH), 3 - l5.toInt < R61 → 1 ≤ l2.toInt ∧ l2.toInt ≤ 2 → (-1) ≤ l4.toInt ∧ l4.toInt ≤ 8 → 0 ≤ l5.toInt ∧ l5.toInt ≤ 3 → jJ jSgX Dy h → jSm fp_X3_place_r87_c2d h0 h → K61 l2.toInt l3.toInt l4.toInt l5.toInt (vw h) = dr → jX m_X3_place 10 0 0 61 [(0, .ref 87), (1, .int 2), (2, .int l2), (3, .int l3), (4, .int l4), (5, .int l5)] [] h 0 0 Q) : ∀ (l2 : Int32) (l3 : Int32) (l4 : Int32) (l5 : Int32) (l6 : Int32) (s0 : Int32) (h : jH), 1 ≤ l2.toInt ∧ l2.toInt ≤ 2 → (-1) ≤ l4.toInt ∧ l4.toInt ≤ 2 → 0 ≤ l5.toInt ∧ l5.toInt ≤ 2 → 0 ≤ l6.toInt ∧ l6.toInt ≤ 2147483647 → 1 ≤ s0.toInt ∧ s0.toInt ≤ 3 → 3 - l5.toInt ≤ R61 → jJ jSgX Dy h → jSm fp_X3_place_r87_c2d h0 h → d_X3_place_r87_c2d_131 K61  l2.toInt l3.toInt l4.toInt l5.toInt l6.toInt s0.toInt (vw h) = dr → jX m_X3_place 10 0 0 131 [(0, .ref 87), (1, .int 2), (2, .int l2), (3, .int l3), (4, .int l4), (5, .int l5), (6, .int l6)] [.int s0, .int 3, .ref 87] h 0 0 Q := by
  intro l2 l3 l4 l5 l6 s0 h y0 y1 y2 y3 y4  m61 J Sm D
  have el3 := jfull l3
  unfold d_X3_place_r87_c2d_131 at D
  refine x_iloadn (x := l3) rfl rfl ?_
  refine x_iload (x := l6) rfl rfl ?_
  refine z_iaddW rfl rfl rfl (fun v1 ev1 => ?_)
  have fv1 := jfull v1
  try rw [← ev1] at D
  refine x_inv (N := m_X3_place) (As := [.int 3, .int s0, .int v1]) (b := 87) (st := []) (dx9 := 9) (mc := 0) (ms := 0) (host := "") 3 rfl t_X3_place ⟨Or.inl q_3_80, i_X3_place.1, i_X3_place.2⟩ ⟨by decide, rfl⟩ (congrArg Prod.fst (J.1.1 87 (3, 14) rfl)) rfl (by decide) rfl rfl ⟨by decide, by decide⟩ (sf_X3_place_r87_c3d (jr_of rfl (by omega)) hD J rfl  (fun h J S2 X3 => ?_))
  have Sm := jSm_tr rfl Sm S2
  rw [X3] at D
  show jX m_X3_place 10 0 0 138 [(0, .ref 87), (1, .int 2), (2, .int l2), (3, .int l3), (4, .int l4), (5, .int l5), (6, .int l6)] [] _ 0 0 _
  exact jX.sub (jsb_c rfl (jsb_c rfl (jsb_c rfl (jsb_c rfl (jsb_c rfl (jsb_c rfl jsb_n)))))) (ct_X3_place_r87_c2d_138 hD hQ k61 l2 l3 l4 l5 h (jr_of rfl (by omega)) (jr_of rfl (by omega)) (jr_of rfl (by omega)) (by omega) J Sm D)
set_option maxRecDepth 100000 in
set_option maxHeartbeats 4000000 in
theorem ct_X3_place_r87_c2d_106 {Dy : jH → Prop} {h0 : jH} {Q : Option Value → jH → Prop} {dr : jW} {K61 : Int → Int → Int → Int → jW → jW} {R61 : Int} (hD : jDk Dy) (hQ : ∀ hx9, jJ jSgX Dy hx9 → jSm fp_X3_place_r87_c2d h0 hx9 → dr = vw hx9 → Q none hx9) (k61 : ∀ (l2 : Int32) (l3 : Int32) (l4 : Int32) (l5 : Int32) (h : jH), 3 - l5.toInt < R61 → 1 ≤ l2.toInt ∧ l2.toInt ≤ 2 → (-1) ≤ l4.toInt ∧ l4.toInt ≤ 8 → 0 ≤ l5.toInt ∧ l5.toInt ≤ 3 → jJ jSgX Dy h → jSm fp_X3_place_r87_c2d h0 h → K61 l2.toInt l3.toInt l4.toInt l5.toInt (vw h) = dr → jX m_X3_place 10 0 0 61 [(0, .ref 87), (1, .int 2), (2, .int l2), (3, .int l3), (4, .int l4), (5, .int l5)] [] h 0 0 Q) : ∀ (l2 : Int32) (l3 : Int32) (l4 : Int32) (l5 : Int32) (l6 : Int32) (h : jH), 1 ≤ l2.toInt ∧ l2.toInt ≤ 2 → (-1) ≤ l4.toInt ∧ l4.toInt ≤ 2 → 0 ≤ l5.toInt ∧ l5.toInt ≤ 2 → 0 ≤ l6.toInt ∧ l6.toInt ≤ 2147483647 → 3 - l5.toInt ≤ R61 → jJ jSgX Dy h → jSm fp_X3_place_r87_c2d h0 h → d_X3_place_r87_c2d_106 K61  l2.toInt l3.toInt l4.toInt l5.toInt l6.toInt (vw h) = dr → jX m_X3_place 10 0 0 106 [(0, .ref 87), (1, .int 2), (2, .int l2), (3, .int l3), (4, .int l4), (5, .int l5), (6, .int l6)] [] h 0 0 Q := by
  intro l2 l3 l4 l5 l6 h y0 y1 y2 y3  m61 J Sm D
  have el3 := jfull l3
  unfold d_X3_place_r87_c2d_106 at D
  refine x_aloadn (x := 87) rfl rfl ?_
  refine z_getR (N := 14) (b := 91) 3 6 rfl f_3_25 rfl J rfl 11142 ⟨rfl, rfl⟩ rfl ?_
  refine x_iloadn (x := 2) rfl rfl ?_
  refine x_iload (x := l5) rfl rfl ?_
  refine z_iast (N := 9) (l := 0) (u := 9) (w := l5.toInt) rfl hD J Sm rfl rfl jk_2 (by omega) rfl (wr_91 (fun q1 q2 q3 q4 => by omega)) rfl (fun h w1 J Sm => ?_)
  rw [vwn (n := 2) (by decide) w1 (show l5.toInt = l5.toInt from by omega)] at D
  refine x_aloadn (x := 87) rfl rfl ?_
  refine x_iloadn (x := 2) rfl rfl ?_
  refine x_iconst (v := 1) rfl ki_1 ?_
  refine y_iadd (v := 3) rfl (by decide) ?_
  refine x_iload (x := l5) rfl rfl ?_
  refine x_iloadn (x := l2) rfl rfl ?_
  refine x_icne (tgt := 130) rfl rfl (ti_ne rfl rfl ⟨fun c2 => ?_, fun c2 => ?_⟩)
  ·
    rw [if_neg (by omega)] at D
    refine x_iloadn (x := l2) rfl rfl ?_
    exact jX.sub (jsb_c rfl (jsb_c rfl (jsb_c rfl (jsb_c rfl (jsb_c rfl (jsb_c rfl (jsb_c rfl jsb_n))))))) (ct_X3_place_r87_c2d_131 hD hQ k61 l2 l3 l4 l5 l6 l2 h (jr_of rfl (by omega)) (jr_of rfl (by omega)) (jr_of rfl (by omega)) (jr_of rfl (by omega)) (jr_of rfl (by omega)) (by omega) J Sm D)
  ·
    rw [if_pos (by omega)] at D
    refine x_iloadn (x := l2) rfl rfl ?_
    refine x_iconst (v := 1) rfl ki_1 ?_
    refine z_iadd rfl rfl jk_1 (by omega) (fun v3 ev3 => ?_)
    refine x_goto (tgt := 131) rfl rfl ?_
    try rw [show (l2.toInt + 1) = v3.toInt from by omega] at D
    exact jX.sub (jsb_c rfl (jsb_c rfl (jsb_c rfl (jsb_c rfl (jsb_c rfl (jsb_c rfl (jsb_c rfl jsb_n))))))) (ct_X3_place_r87_c2d_131 hD hQ k61 l2 l3 l4 l5 l6 v3 h (jr_of rfl (by omega)) (jr_of rfl (by omega)) (jr_of rfl (by omega)) (jr_of rfl (by omega)) (jr_of rfl (by omega)) (by omega) J Sm D)
set_option maxRecDepth 100000 in
set_option maxHeartbeats 4000000 in
theorem ct_X3_place_r87_c2d_61 {Dy : jH → Prop} {h0 : jH} {Q : Option Value → jH → Prop} {dr : jW} (hD : jDk Dy) (hQ : ∀ hx9, jJ jSgX Dy hx9 → jSm fp_X3_place_r87_c2d h0 hx9 → dr = vw hx9 → Q none hx9) : ∀ r : Nat, ∀ (l2 : Int32) (l3 : Int32) (l4 : Int32) (l5 : Int32) (h : jH), 3 - l5.toInt < (r : Int) → 1 ≤ l2.toInt ∧ l2.toInt ≤ 2 → (-1) ≤ l4.toInt ∧ l4.toInt ≤ 8 → 0 ≤ l5.toInt ∧ l5.toInt ≤ 3 → jJ jSgX Dy h → jSm fp_X3_place_r87_c2d h0 h → d_X3_place_r87_c2d_61 r l2.toInt l3.toInt l4.toInt l5.toInt (vw h) = dr → jX m_X3_place 10 0 0 61 [(0, .ref 87), (1, .int 2), (2, .int l2), (3, .int l3), (4, .int l4), (5, .int l5)] [] h 0 0 Q := by
  intro r
  induction r with
  | zero =>
    intro l2 l3 l4 l5 h hm y0 y1 y2   J Sm D
    exfalso
    have el3 := jfull l3
    omega
  | succ r ih =>
    intro l2 l3 l4 l5 h hm y0 y1 y2   J Sm D
    have el3 := jfull l3
    rw [d_X3_place_r87_c2d_61.eq_2] at D
    refine x_iload (x := l5) rfl rfl ?_
    refine x_iloadn (x := l2) rfl rfl ?_
    refine x_icgt (tgt := 144) rfl rfl (ti_gt rfl rfl ⟨fun c1 => ?_, fun c1 => ?_⟩)
    ·
      rw [if_pos (by omega)] at D
      exact jX.sub jsb_n (ct_X3_place_r87_c2d_144 hD hQ  h J Sm D)
    ·
      rw [if_neg (by omega)] at D
      refine x_iload (x := l5) rfl rfl ?_
      refine x_bipush (v := 10) rfl kb_10 ?_
      refine x_icge (tgt := 144) rfl rfl (ti_ge rfl jk_10 (br_f (by omega) ?_))
      refine x_aloadn (x := 87) rfl rfl ?_
      refine z_getR (N := 14) (b := 93) 3 8 rfl f_3_31 rfl J rfl 11144 ⟨rfl, rfl⟩ rfl ?_
      refine x_iloadn (x := 2) rfl rfl ?_
      refine x_bipush (v := 10) rfl kb_10 ?_
      refine y_imul (v := 20) rfl (by decide) ?_
      refine x_iload (x := l5) rfl rfl ?_
      refine z_iadd rfl jk_20 rfl (by omega) (fun v2 ev2 => ?_)
      refine z_iald0 (N := 90) rfl J rfl rfl (by omega) (fun v3 qv3 => ?_)
      have ev3 := jfull v3
      try rw [vrd qv3 (show (20 + l5.toInt) = v2.toInt from by omega)] at D
      refine x_istore (lsx9 := [(6, .int v3), (0, .ref 87), (1, .int 2), (2, .int l2), (3, .int l3), (4, .int l4), (5, .int l5)]) rfl rfl rfl ?_
      refine x_iload (x := v3) rfl rfl ?_
      refine x_iflt (tgt := 138) rfl rfl (ti_lt rfl jk_0 ⟨fun c4 => ?_, fun c4 => ?_⟩)
      ·
        rw [if_pos (by omega)] at D
        exact jX.sub (jsb_c rfl (jsb_c rfl (jsb_c rfl (jsb_c rfl (jsb_c rfl (jsb_c rfl jsb_n)))))) (ct_X3_place_r87_c2d_138 hD hQ ih l2 l3 l4 l5 h (jr_of rfl (by omega)) (jr_of rfl (by omega)) (jr_of rfl (by omega)) (by omega) J Sm D)
      ·
        rw [if_neg (by omega)] at D
        refine x_iload (x := l4) rfl rfl ?_
        refine x_iconst (v := (-1)) rfl ki_m1 ?_
        refine x_iceq (tgt := 106) rfl rfl (ti_eq rfl jk_m1 ⟨fun c5 => ?_, fun c5 => ?_⟩)
        ·
          rw [if_pos (by omega)] at D
          exact jX.sub (jsb_c rfl (jsb_c rfl (jsb_c rfl (jsb_c rfl (jsb_c rfl (jsb_c rfl (jsb_c rfl jsb_n))))))) (ct_X3_place_r87_c2d_106 hD hQ ih l2 l3 l4 l5 v3 h (jr_of rfl (by omega)) (jr_of rfl (by omega)) (jr_of rfl (by omega)) (jr_of rfl (by omega)) (by omega) J Sm D)
        ·
          rw [if_neg (by omega)] at D
          refine x_iload (x := l4) rfl rfl ?_
          refine x_iload (x := l5) rfl rfl ?_
          refine x_icne (tgt := 138) rfl rfl (ti_ne rfl rfl ⟨fun c6 => ?_, fun c6 => ?_⟩)
          ·
            rw [if_neg (by omega)] at D
            exact jX.sub (jsb_c rfl (jsb_c rfl (jsb_c rfl (jsb_c rfl (jsb_c rfl (jsb_c rfl jsb_n)))))) (ct_X3_place_r87_c2d_138 hD hQ ih l2 l3 l4 l5 h (jr_of rfl (by omega)) (jr_of rfl (by omega)) (jr_of rfl (by omega)) (by omega) J Sm D)
          ·
            rw [if_pos (by omega)] at D
            exact jX.sub (jsb_c rfl (jsb_c rfl (jsb_c rfl (jsb_c rfl (jsb_c rfl (jsb_c rfl (jsb_c rfl jsb_n))))))) (ct_X3_place_r87_c2d_106 hD hQ ih l2 l3 l4 l5 v3 h (jr_of rfl (by omega)) (jr_of rfl (by omega)) (jr_of rfl (by omega)) (jr_of rfl (by omega)) (by omega) J Sm D)
set_option maxRecDepth 100000 in
set_option maxHeartbeats 4000000 in
theorem ct_X3_place_r87_c2d_56 {Dy : jH → Prop} {h0 : jH} {Q : Option Value → jH → Prop} {dr : jW} (hD : jDk Dy) (hQ : ∀ hx9, jJ jSgX Dy hx9 → jSm fp_X3_place_r87_c2d h0 hx9 → dr = vw hx9 → Q none hx9) : ∀ (l2 : Int32) (l3 : Int32) (s0 : Int32) (h : jH), 1 ≤ l2.toInt ∧ l2.toInt ≤ 2 → 0 ≤ s0.toInt ∧ s0.toInt ≤ 8 → jJ jSgX Dy h → jSm fp_X3_place_r87_c2d h0 h → d_X3_place_r87_c2d_56  l2.toInt l3.toInt s0.toInt (vw h) = dr → jX m_X3_place 10 0 0 56 [(0, .ref 87), (1, .int 2), (2, .int l2), (3, .int l3)] [.int s0] h 0 0 Q := by
  intro l2 l3 s0 h y0 y1   J Sm D
  have el3 := jfull l3
  unfold d_X3_place_r87_c2d_56 at D
  refine x_istore (lsx9 := [(4, .int s0), (0, .ref 87), (1, .int 2), (2, .int l2), (3, .int l3)]) rfl rfl rfl ?_
  refine x_iconst (v := 0) rfl ki_0 ?_
  refine x_istore (lsx9 := [(5, .int 0), (4, .int s0), (0, .ref 87), (1, .int 2), (2, .int l2), (3, .int l3)]) rfl rfl rfl ?_
  exact jX.sub (jsb_c rfl (jsb_c rfl (jsb_c rfl (jsb_c rfl (jsb_c rfl (jsb_c rfl jsb_n)))))) (ct_X3_place_r87_c2d_61 hD hQ  4 l2 l3 s0 0 h (by have := jk_0; omega) (jr_of rfl (by omega)) (jr_of rfl (by omega)) (jr_of jk_0 (by omega)) J Sm (by rw [jk_0]; exact D))
set_option maxRecDepth 100000 in
set_option maxHeartbeats 4000000 in
theorem ct_X3_place_r87_c2d_100056 {Dy : jH → Prop} {h0 : jH} {Q : Option Value → jH → Prop} {dr : jW} (hD : jDk Dy) (hQ : ∀ hx9, jJ jSgX Dy hx9 → jSm fp_X3_place_r87_c2d h0 hx9 → dr = vw hx9 → Q none hx9) : ∀ (l2 : Int32) (l3 : Int32) (h : jH), 1 ≤ l2.toInt ∧ l2.toInt ≤ 2 → jJ jSgX Dy h → jSm fp_X3_place_r87_c2d h0 h → d_X3_place_r87_c2d_100056  l2.toInt l3.toInt (vw h) = dr → jX m_X3_place 10 0 0 56 [(0, .ref 87), (1, .int 2), (2, .int l2), (3, .int l3)] [.int (-1)] h 0 0 Q := by
  intro l2 l3 h y0   J Sm D
  have el3 := jfull l3
  unfold d_X3_place_r87_c2d_100056 at D
  refine x_istore (lsx9 := [(4, .int (-1)), (0, .ref 87), (1, .int 2), (2, .int l2), (3, .int l3)]) rfl rfl rfl ?_
  refine x_iconst (v := 0) rfl ki_0 ?_
  refine x_istore (lsx9 := [(5, .int 0), (4, .int (-1)), (0, .ref 87), (1, .int 2), (2, .int l2), (3, .int l3)]) rfl rfl rfl ?_
  exact jX.sub (jsb_c rfl (jsb_c rfl (jsb_c rfl (jsb_c rfl (jsb_c rfl (jsb_c rfl jsb_n)))))) (ct_X3_place_r87_c2d_61 hD hQ  4 l2 l3 (-1) 0 h (by have := jk_0; omega) (jr_of rfl (by omega)) (jr_of jk_m1 (by omega)) (jr_of jk_0 (by omega)) J Sm (by rw [jk_m1, jk_0]; exact D))
set_option maxRecDepth 100000 in
set_option maxHeartbeats 4000000 in
theorem sf_X3_place_r87_c2d {Dy : jH → Prop} {h : jH} {Q : Option Value → jH → Prop} {dr : jW} {a2 : Int32} {a3 : Int32} (y2 : 1 ≤ a2.toInt ∧ a2.toInt ≤ 2) (hD : jDk Dy) (J : jJ jSgX Dy h) (D : d_X3_place_r87_c2d a2.toInt a3.toInt (vw h) = dr) (hQ : ∀ hx9, jJ jSgX Dy hx9 → jSm fp_X3_place_r87_c2d h hx9 → dr = vw hx9 → Q none hx9) : jC m_X3_place 10 0 0 [.ref 87, .int 2, .int a2, .int a3] h Q := by
  refine jC.of rfl k_X3_place rfl ?_
  have Sm := jSm_rf fp_X3_place_r87_c2d h
  have ea3 := jfull a3
  show jX m_X3_place 10 0 0 0 [(0, .ref 87), (1, .int 2), (2, .int a2), (3, .int a3)] [] _ 0 0 _
  unfold d_X3_place_r87_c2d at D
  refine x_iloadn (x := 2) rfl rfl ?_
  refine x_iflt (tgt := 18) rfl rfl (ti_lt jk_2 jk_0 (br_f (by omega) ?_))
  refine x_iloadn (x := 2) rfl rfl ?_
  refine x_aloadn (x := 87) rfl rfl ?_
  refine z_getI (N := 14) 3 3 rfl f_3_15 rfl J rfl sg_87_3_4_1_0_1 (fun v1 qv1 ev1 => ?_)
  try rw [vrf qv1] at D
  refine x_icge (tgt := 18) rfl rfl (ti_ge jk_2 rfl ⟨fun c2 => ?_, fun c2 => ?_⟩)
  ·
    rw [if_pos (by omega)] at D
    exact jX.sub (jsb_c rfl (jsb_c rfl (jsb_c rfl jsb_n))) (ct_X3_place_r87_c2d_18 hD hQ  a2 a3 h (jr_of rfl (by omega)) J Sm D)
  ·
    rw [if_neg (by omega)] at D
    refine x_iloadn (x := 2) rfl rfl ?_
    refine x_bipush (v := 9) rfl kb_9 ?_
    refine x_iclt (tgt := 25) rfl rfl (ti_lt jk_2 jk_9 (br_t (by omega) ?_))
    refine x_aloadn (x := 87) rfl rfl ?_
    refine x_iloadn (x := 2) rfl rfl ?_
    refine x_iloadn (x := a2) rfl rfl ?_
    refine x_inv (N := m_X3_readGains) (As := [.int 2, .int a2]) (b := 87) (st := []) (dx9 := 1) (mc := 0) (ms := 0) (host := "") 3 rfl t_X3_readGains ⟨Or.inl q_3_97, i_X3_readGains.1, i_X3_readGains.2⟩ ⟨by decide, rfl⟩ (congrArg Prod.fst (J.1.1 87 (3, 14) rfl)) rfl (by decide) rfl rfl ⟨by decide, by decide⟩ (sf_X3_readGains_r87d (jr_of jk_2 (by omega)) (jr_of rfl (by omega)) hD J rfl  (fun h J S3 X4 => ?_))
    have Sm := jSm_tr rfl Sm S3
    try rw [jk_2] at X4
    rw [X4] at D
    show jX m_X3_place 10 0 0 31 [(0, .ref 87), (1, .int 2), (2, .int a2), (3, .int a3)] [] _ 0 0 _
    refine x_aloadn (x := 87) rfl rfl ?_
    refine z_getR (N := 14) (b := 90) 3 5 rfl f_3_22 rfl J rfl 11141 ⟨rfl, rfl⟩ rfl ?_
    refine x_iloadn (x := 2) rfl rfl ?_
    refine z_iald (N := 9) rfl J rfl sg_90_0_9_1_0_1 jk_2 (by omega) (fun v5 qv5 ev5 => ?_)
    try rw [vrn (n := 2) (by decide) (jmb_c S3 qv5 rfl)] at D
    refine x_iconst (v := (-1)) rfl ki_m1 ?_
    refine x_icne (tgt := 45) rfl rfl (ti_ne rfl jk_m1 ⟨fun c6 => ?_, fun c6 => ?_⟩)
    ·
      rw [if_neg (by omega)] at D
      refine x_aloadn (x := 87) rfl rfl ?_
      refine z_getR (N := 14) (b := 91) 3 6 rfl f_3_25 rfl J rfl 11142 ⟨rfl, rfl⟩ rfl ?_
      refine x_aloadn (x := 87) rfl rfl ?_
      refine z_getR (N := 14) (b := 90) 3 5 rfl f_3_22 rfl J rfl 11141 ⟨rfl, rfl⟩ rfl ?_
      refine x_iloadn (x := 2) rfl rfl ?_
      refine z_ialdM (N := 9) (v := v5) rfl J rfl jk_2 (by omega) qv5 ?_
      refine z_iald (N := 9) rfl J rfl sg_91_0_9_1_0_1 rfl (by omega) (fun v7 qv7 ev7 => ?_)
      try rw [vrd (jmb_c S3 qv7 rfl) (show v5.toInt = v5.toInt from by omega)] at D
      exact jX.sub (jsb_c rfl (jsb_c rfl (jsb_c rfl (jsb_c rfl jsb_n)))) (ct_X3_place_r87_c2d_56 hD hQ  a2 a3 v7 h (jr_of rfl (by omega)) (jr_of rfl (by omega)) J Sm D)
    ·
      rw [if_pos (by omega)] at D
      refine x_iconst (v := (-1)) rfl ki_m1 ?_
      refine x_goto (tgt := 56) rfl rfl ?_
      exact jX.sub (jsb_c rfl (jsb_c rfl (jsb_c rfl (jsb_c rfl jsb_n)))) (ct_X3_place_r87_c2d_100056 hD hQ  a2 a3 h (jr_of rfl (by omega)) J Sm D)
def fp_X3_place_r87_c1d : jFp := [(87, 10, 11), (87, 11, 12), (91, 0, 9), (92, 0, 9), (93, 0, 90), (94, 0, 14401)]
set_option maxRecDepth 100000 in
set_option maxHeartbeats 4000000 in
theorem ct_X3_place_r87_c1d_18 {Dy : jH → Prop} {h0 : jH} {Q : Option Value → jH → Prop} {dr : jW} (hD : jDk Dy) (hQ : ∀ hx9, jJ jSgX Dy hx9 → jSm fp_X3_place_r87_c1d h0 hx9 → dr = vw hx9 → Q none hx9) : ∀ (l2 : Int32) (l3 : Int32) (h : jH), 1 ≤ l2.toInt ∧ l2.toInt ≤ 1 → 0 ≤ l3.toInt ∧ l3.toInt ≤ 2147483647 → jJ jSgX Dy h → jSm fp_X3_place_r87_c1d h0 h → d_X3_place_r87_c1d_18  l2.toInt l3.toInt (vw h) = dr → jX m_X3_place 11 0 0 18 [(0, .ref 87), (2, .int l2), (3, .int l3)] [] h 0 0 Q := by
  intro l2 l3 h y0 y1   J Sm D
  unfold d_X3_place_r87_c1d_18 at D
  refine x_aloadn (x := 87) rfl rfl ?_
  refine x_iloadn (x := l2) rfl rfl ?_
  refine x_iloadn (x := l3) rfl rfl ?_
  refine x_inv (N := m_X3_note) (As := [.int l2, .int l3]) (b := 87) (st := []) (dx9 := 10) (mc := 0) (ms := 0) (host := "") 3 rfl t_X3_note ⟨Or.inl q_3_93, i_X3_note.1, i_X3_note.2⟩ ⟨by decide, rfl⟩ (congrArg Prod.fst (J.1.1 87 (3, 14) rfl)) rfl (by decide) rfl rfl ⟨by decide, by decide⟩ (jC.of rfl k_X3_note rfl ?_)
  show jX m_X3_note 10 0 0 0 [(0, .ref 87), (1, .int l2), (2, .int l3)] [] _ 0 0 _
  refine x_iloadn (x := l3) rfl rfl ?_
  refine x_iflt (tgt := 23) rfl rfl (ti_lt rfl jk_0 (br_f (by omega) ?_))
  refine x_iloadn (x := l3) rfl rfl ?_
  refine x_aloadn (x := 87) rfl rfl ?_
  refine z_getR (N := 14) (b := 94) 3 9 rfl f_3_34 rfl J rfl 11145 ⟨rfl, rfl⟩ rfl ?_
  refine z_alen (N := 14401) (v := 14401) rfl J rfl rfl (by decide) ?_
  refine x_icge (tgt := 23) rfl rfl (ti_ge rfl jk_14401 ⟨fun c1 => ?_, fun c1 => ?_⟩)
  ·
    rw [if_pos (by omega)] at D
    refine x_iloadn (x := l3) rfl rfl ?_
    refine x_aloadn (x := 87) rfl rfl ?_
    refine z_getI (N := 14) 3 10 rfl f_3_37 rfl J rfl sg_87_10_11_1_0_1 (fun v2 qv2 ev2 => ?_)
    try rw [vrf qv2] at D
    refine x_icgt (tgt := 47) rfl rfl (ti_gt rfl rfl ⟨fun c3 => ?_, fun c3 => ?_⟩)
    ·
      rw [if_pos (by omega)] at D
      refine x_aloadn (x := 87) rfl rfl ?_
      refine x_iloadn (x := l3) rfl rfl ?_
      refine z_putI (N := 14) (w := l3.toInt) 3 10 rfl f_3_37 rfl (jfin_no TX3 RX3 14 rfl rfl) hD J Sm rfl rfl rfl (pw_87_10 (by omega)) rfl (fun h w4 J Sm => ?_)
      rw [vwf w4 (show l3.toInt = l3.toInt from by omega)] at D
      refine x_aloadn (x := 87) rfl rfl ?_
      refine x_iloadn (x := l2) rfl rfl ?_
      refine z_putI (N := 14) (w := l2.toInt) 3 11 rfl f_3_40 rfl (jfin_no TX3 RX3 14 rfl rfl) hD J Sm rfl rfl rfl (pw_87_11 (by omega)) rfl (fun h w5 J Sm => ?_)
      rw [vwf w5 (show l2.toInt = l2.toInt from by omega)] at D
      refine x_aloadn (x := 87) rfl rfl ?_
      refine z_getR (N := 14) (b := 91) 3 6 rfl f_3_25 rfl J rfl 11142 ⟨rfl, rfl⟩ rfl ?_
      refine x_iconst (v := 0) rfl ki_0 ?_
      refine x_aloadn (x := 87) rfl rfl ?_
      refine z_getR (N := 14) (b := 92) 3 7 rfl f_3_28 rfl J rfl 11143 ⟨rfl, rfl⟩ rfl ?_
      refine x_iconst (v := 0) rfl ki_0 ?_
      refine x_bipush (v := 9) rfl kb_9 ?_
      refine z_cpi (N1 := 9) (N2 := 9) rfl ⟨q_3_100, jcp_w⟩ (by decide) rfl hD J Sm rfl rfl rfl rfl jk_0 jk_0 jk_9 (by omega) (cp_92 (fun k k1 k2 k3 => by have k4 := k3.1; have k5 := k3.2.1; have k6 := k3.2.2; simp only at k4 k5 k6; exact jcp_in J sg_91_0_9_1_0_1 rfl (by omega) (by decide))) rfl (fun h w6 J Sm => ?_)
      rw [vwk w6 (show (0 : Int) = (0 : Int32).toInt from by decide) (show (0 : Int) = (0 : Int32).toInt from by decide) (show (9 : Int) = (9 : Int32).toInt from by decide)] at D
      refine x_vret rfl rfl ?_
      show jX m_X3_place 11 0 0 24 [(0, .ref 87), (2, .int l2), (3, .int l3)] [] _ 0 0 _
      refine x_vret rfl rfl ?_
      exact hQ _ J Sm D.symm
    ·
      rw [if_neg (by omega)] at D
      refine x_iloadn (x := l3) rfl rfl ?_
      refine x_aloadn (x := 87) rfl rfl ?_
      refine z_getM (N := 14) (v := v2) 3 10 rfl f_3_37 rfl J rfl qv2 ?_
      refine x_icne (tgt := 72) rfl rfl (ti_ne rfl rfl ⟨fun c7 => ?_, fun c7 => ?_⟩)
      ·
        rw [if_neg (by omega)] at D
        refine x_vret rfl rfl ?_
        show jX m_X3_place 11 0 0 24 [(0, .ref 87), (2, .int l2), (3, .int l3)] [] _ 0 0 _
        refine x_vret rfl rfl ?_
        exact hQ _ J Sm D.symm
      ·
        rw [if_pos (by omega)] at D
        refine x_iloadn (x := l2) rfl rfl ?_
        refine x_aloadn (x := 87) rfl rfl ?_
        refine z_getI (N := 14) 3 11 rfl f_3_40 rfl J rfl sg_87_11_12_1_0_1 (fun v8 qv8 ev8 => ?_)
        try rw [vrf qv8] at D
        refine x_icge (tgt := 72) rfl rfl (ti_ge rfl rfl ⟨fun c9 => ?_, fun c9 => ?_⟩)
        ·
          rw [if_pos (by omega)] at D
          refine x_vret rfl rfl ?_
          show jX m_X3_place 11 0 0 24 [(0, .ref 87), (2, .int l2), (3, .int l3)] [] _ 0 0 _
          refine x_vret rfl rfl ?_
          exact hQ _ J Sm D.symm
        ·
          rw [if_neg (by omega)] at D
          refine x_aloadn (x := 87) rfl rfl ?_
          refine x_iloadn (x := l3) rfl rfl ?_
          refine z_putI (N := 14) (w := l3.toInt) 3 10 rfl f_3_37 rfl (jfin_no TX3 RX3 14 rfl rfl) hD J Sm rfl rfl rfl (pw_87_10 (by omega)) rfl (fun h w10 J Sm => ?_)
          rw [vwf w10 (show l3.toInt = l3.toInt from by omega)] at D
          refine x_aloadn (x := 87) rfl rfl ?_
          refine x_iloadn (x := l2) rfl rfl ?_
          refine z_putI (N := 14) (w := l2.toInt) 3 11 rfl f_3_40 rfl (jfin_no TX3 RX3 14 rfl rfl) hD J Sm rfl rfl rfl (pw_87_11 (by omega)) rfl (fun h w11 J Sm => ?_)
          rw [vwf w11 (show l2.toInt = l2.toInt from by omega)] at D
          refine x_aloadn (x := 87) rfl rfl ?_
          refine z_getR (N := 14) (b := 91) 3 6 rfl f_3_25 rfl J rfl 11142 ⟨rfl, rfl⟩ rfl ?_
          refine x_iconst (v := 0) rfl ki_0 ?_
          refine x_aloadn (x := 87) rfl rfl ?_
          refine z_getR (N := 14) (b := 92) 3 7 rfl f_3_28 rfl J rfl 11143 ⟨rfl, rfl⟩ rfl ?_
          refine x_iconst (v := 0) rfl ki_0 ?_
          refine x_bipush (v := 9) rfl kb_9 ?_
          refine z_cpi (N1 := 9) (N2 := 9) rfl ⟨q_3_100, jcp_w⟩ (by decide) rfl hD J Sm rfl rfl rfl rfl jk_0 jk_0 jk_9 (by omega) (cp_92 (fun k k1 k2 k3 => by have k4 := k3.1; have k5 := k3.2.1; have k6 := k3.2.2; simp only at k4 k5 k6; exact jcp_in J sg_91_0_9_1_0_1 rfl (by omega) (by decide))) rfl (fun h w12 J Sm => ?_)
          rw [vwk w12 (show (0 : Int) = (0 : Int32).toInt from by decide) (show (0 : Int) = (0 : Int32).toInt from by decide) (show (9 : Int) = (9 : Int32).toInt from by decide)] at D
          refine x_vret rfl rfl ?_
          show jX m_X3_place 11 0 0 24 [(0, .ref 87), (2, .int l2), (3, .int l3)] [] _ 0 0 _
          refine x_vret rfl rfl ?_
          exact hQ _ J Sm D.symm
  ·
    rw [if_neg (by omega)] at D
    refine x_aloadn (x := 87) rfl rfl ?_
    refine z_getR (N := 14) (b := 94) 3 9 rfl f_3_34 rfl J rfl 11145 ⟨rfl, rfl⟩ rfl ?_
    refine x_iloadn (x := l3) rfl rfl ?_
    refine x_dup2 rfl rfl rfl ?_
    refine z_iald0 (N := 14401) rfl J rfl rfl (by omega) (fun v13 qv13 => ?_)
    have ev13 := jfull v13
    try rw [vrd qv13 (show l3.toInt = l3.toInt from by omega)] at D
    refine x_iconst (v := 1) rfl ki_1 ?_
    refine z_iaddW rfl rfl jk_1 (fun v14 ev14 => ?_)
    have fv14 := jfull v14
    try rw [← ev14] at D
    refine z_iast (N := 14401) (l := 0) (u := 14401) (w := v14.toInt) rfl hD J Sm rfl rfl rfl (by omega) rfl (wr_94) rfl (fun h w15 J Sm => ?_)
    rw [vww w15 (show l3.toInt = l3.toInt from by omega) (show v14.toInt = v14.toInt from by omega)] at D
    refine x_iloadn (x := l3) rfl rfl ?_
    refine x_aloadn (x := 87) rfl rfl ?_
    refine z_getI (N := 14) 3 10 rfl f_3_37 rfl J rfl sg_87_10_11_1_0_1 (fun v16 qv16 ev16 => ?_)
    try rw [vrf (jmb_w w15 qv16 rfl)] at D
    refine x_icgt (tgt := 47) rfl rfl (ti_gt rfl rfl ⟨fun c17 => ?_, fun c17 => ?_⟩)
    ·
      rw [if_pos (by omega)] at D
      refine x_aloadn (x := 87) rfl rfl ?_
      refine x_iloadn (x := l3) rfl rfl ?_
      refine z_putI (N := 14) (w := l3.toInt) 3 10 rfl f_3_37 rfl (jfin_no TX3 RX3 14 rfl rfl) hD J Sm rfl rfl rfl (pw_87_10 (by omega)) rfl (fun h w18 J Sm => ?_)
      rw [vwf w18 (show l3.toInt = l3.toInt from by omega)] at D
      refine x_aloadn (x := 87) rfl rfl ?_
      refine x_iloadn (x := l2) rfl rfl ?_
      refine z_putI (N := 14) (w := l2.toInt) 3 11 rfl f_3_40 rfl (jfin_no TX3 RX3 14 rfl rfl) hD J Sm rfl rfl rfl (pw_87_11 (by omega)) rfl (fun h w19 J Sm => ?_)
      rw [vwf w19 (show l2.toInt = l2.toInt from by omega)] at D
      refine x_aloadn (x := 87) rfl rfl ?_
      refine z_getR (N := 14) (b := 91) 3 6 rfl f_3_25 rfl J rfl 11142 ⟨rfl, rfl⟩ rfl ?_
      refine x_iconst (v := 0) rfl ki_0 ?_
      refine x_aloadn (x := 87) rfl rfl ?_
      refine z_getR (N := 14) (b := 92) 3 7 rfl f_3_28 rfl J rfl 11143 ⟨rfl, rfl⟩ rfl ?_
      refine x_iconst (v := 0) rfl ki_0 ?_
      refine x_bipush (v := 9) rfl kb_9 ?_
      refine z_cpi (N1 := 9) (N2 := 9) rfl ⟨q_3_100, jcp_w⟩ (by decide) rfl hD J Sm rfl rfl rfl rfl jk_0 jk_0 jk_9 (by omega) (cp_92 (fun k k1 k2 k3 => by have k4 := k3.1; have k5 := k3.2.1; have k6 := k3.2.2; simp only at k4 k5 k6; exact jcp_in J sg_91_0_9_1_0_1 rfl (by omega) (by decide))) rfl (fun h w20 J Sm => ?_)
      rw [vwk w20 (show (0 : Int) = (0 : Int32).toInt from by decide) (show (0 : Int) = (0 : Int32).toInt from by decide) (show (9 : Int) = (9 : Int32).toInt from by decide)] at D
      refine x_vret rfl rfl ?_
      show jX m_X3_place 11 0 0 24 [(0, .ref 87), (2, .int l2), (3, .int l3)] [] _ 0 0 _
      refine x_vret rfl rfl ?_
      exact hQ _ J Sm D.symm
    ·
      rw [if_neg (by omega)] at D
      refine x_iloadn (x := l3) rfl rfl ?_
      refine x_aloadn (x := 87) rfl rfl ?_
      refine z_getM (N := 14) (v := v16) 3 10 rfl f_3_37 rfl J rfl qv16 ?_
      refine x_icne (tgt := 72) rfl rfl (ti_ne rfl rfl ⟨fun c21 => ?_, fun c21 => ?_⟩)
      ·
        rw [if_neg (by omega)] at D
        refine x_vret rfl rfl ?_
        show jX m_X3_place 11 0 0 24 [(0, .ref 87), (2, .int l2), (3, .int l3)] [] _ 0 0 _
        refine x_vret rfl rfl ?_
        exact hQ _ J Sm D.symm
      ·
        rw [if_pos (by omega)] at D
        refine x_iloadn (x := l2) rfl rfl ?_
        refine x_aloadn (x := 87) rfl rfl ?_
        refine z_getI (N := 14) 3 11 rfl f_3_40 rfl J rfl sg_87_11_12_1_0_1 (fun v22 qv22 ev22 => ?_)
        try rw [vrf (jmb_w w15 qv22 rfl)] at D
        refine x_icge (tgt := 72) rfl rfl (ti_ge rfl rfl ⟨fun c23 => ?_, fun c23 => ?_⟩)
        ·
          rw [if_pos (by omega)] at D
          refine x_vret rfl rfl ?_
          show jX m_X3_place 11 0 0 24 [(0, .ref 87), (2, .int l2), (3, .int l3)] [] _ 0 0 _
          refine x_vret rfl rfl ?_
          exact hQ _ J Sm D.symm
        ·
          rw [if_neg (by omega)] at D
          refine x_aloadn (x := 87) rfl rfl ?_
          refine x_iloadn (x := l3) rfl rfl ?_
          refine z_putI (N := 14) (w := l3.toInt) 3 10 rfl f_3_37 rfl (jfin_no TX3 RX3 14 rfl rfl) hD J Sm rfl rfl rfl (pw_87_10 (by omega)) rfl (fun h w24 J Sm => ?_)
          rw [vwf w24 (show l3.toInt = l3.toInt from by omega)] at D
          refine x_aloadn (x := 87) rfl rfl ?_
          refine x_iloadn (x := l2) rfl rfl ?_
          refine z_putI (N := 14) (w := l2.toInt) 3 11 rfl f_3_40 rfl (jfin_no TX3 RX3 14 rfl rfl) hD J Sm rfl rfl rfl (pw_87_11 (by omega)) rfl (fun h w25 J Sm => ?_)
          rw [vwf w25 (show l2.toInt = l2.toInt from by omega)] at D
          refine x_aloadn (x := 87) rfl rfl ?_
          refine z_getR (N := 14) (b := 91) 3 6 rfl f_3_25 rfl J rfl 11142 ⟨rfl, rfl⟩ rfl ?_
          refine x_iconst (v := 0) rfl ki_0 ?_
          refine x_aloadn (x := 87) rfl rfl ?_
          refine z_getR (N := 14) (b := 92) 3 7 rfl f_3_28 rfl J rfl 11143 ⟨rfl, rfl⟩ rfl ?_
          refine x_iconst (v := 0) rfl ki_0 ?_
          refine x_bipush (v := 9) rfl kb_9 ?_
          refine z_cpi (N1 := 9) (N2 := 9) rfl ⟨q_3_100, jcp_w⟩ (by decide) rfl hD J Sm rfl rfl rfl rfl jk_0 jk_0 jk_9 (by omega) (cp_92 (fun k k1 k2 k3 => by have k4 := k3.1; have k5 := k3.2.1; have k6 := k3.2.2; simp only at k4 k5 k6; exact jcp_in J sg_91_0_9_1_0_1 rfl (by omega) (by decide))) rfl (fun h w26 J Sm => ?_)
          rw [vwk w26 (show (0 : Int) = (0 : Int32).toInt from by decide) (show (0 : Int) = (0 : Int32).toInt from by decide) (show (9 : Int) = (9 : Int32).toInt from by decide)] at D
          refine x_vret rfl rfl ?_
          show jX m_X3_place 11 0 0 24 [(0, .ref 87), (2, .int l2), (3, .int l3)] [] _ 0 0 _
          refine x_vret rfl rfl ?_
          exact hQ _ J Sm D.symm
set_option maxRecDepth 100000 in
set_option maxHeartbeats 4000000 in
theorem ct_X3_place_r87_c1d_144 {Dy : jH → Prop} {h0 : jH} {Q : Option Value → jH → Prop} {dr : jW} (hD : jDk Dy) (hQ : ∀ hx9, jJ jSgX Dy hx9 → jSm fp_X3_place_r87_c1d h0 hx9 → dr = vw hx9 → Q none hx9) : ∀ (h : jH), jJ jSgX Dy h → jSm fp_X3_place_r87_c1d h0 h → d_X3_place_r87_c1d_144  (vw h) = dr → jX m_X3_place 11 0 0 144 [] [] h 0 0 Q := by
  intro  h    J Sm D
  unfold d_X3_place_r87_c1d_144 at D
  refine x_vret rfl rfl ?_
  exact hQ _ J Sm D.symm
set_option maxRecDepth 100000 in
set_option maxHeartbeats 4000000 in
theorem ct_X3_place_r87_c1d_138 {Dy : jH → Prop} {h0 : jH} {Q : Option Value → jH → Prop} {dr : jW} {K61 : Int → Int → Int → Int → jW → jW} {R61 : Int} (hD : jDk Dy) (hQ : ∀ hx9, jJ jSgX Dy hx9 → jSm fp_X3_place_r87_c1d h0 hx9 → dr = vw hx9 → Q none hx9) (k61 : ∀ (l2 : Int32) (l3 : Int32) (l4 : Int32) (l5 : Int32) (h : jH), 2 - l5.toInt < R61 → 1 ≤ l2.toInt ∧ l2.toInt ≤ 1 → 0 ≤ l3.toInt ∧ l3.toInt ≤ 2147483647 → (-1) ≤ l4.toInt ∧ l4.toInt ≤ 8 → 0 ≤ l5.toInt ∧ l5.toInt ≤ 2 → jJ jSgX Dy h → jSm fp_X3_place_r87_c1d h0 h → K61 l2.toInt l3.toInt l4.toInt l5.toInt (vw h) = dr → jX m_X3_place 11 0 0 61 [(0, .ref 87), (1, .int 1), (2, .int l2), (3, .int l3), (4, .int l4), (5, .int l5)] [] h 0 0 Q) : ∀ (l2 : Int32) (l3 : Int32) (l4 : Int32) (l5 : Int32) (h : jH), 1 ≤ l2.toInt ∧ l2.toInt ≤ 1 → 0 ≤ l3.toInt ∧ l3.toInt ≤ 2147483647 → (-1) ≤ l4.toInt ∧ l4.toInt ≤ 8 → 0 ≤ l5.toInt ∧ l5.toInt ≤ 1 → 2 - l5.toInt ≤ R61 → jJ jSgX Dy h → jSm fp_X3_place_r87_c1d h0 h → d_X3_place_r87_c1d_138 K61  l2.toInt l3.toInt l4.toInt l5.toInt (vw h) = dr → jX m_X3_place 11 0 0 138 [(0, .ref 87), (1, .int 1), (2, .int l2), (3, .int l3), (4, .int l4), (5, .int l5)] [] h 0 0 Q := by
  intro l2 l3 l4 l5 h y0 y1 y2 y3  m61 J Sm D
  unfold d_X3_place_r87_c1d_138 at D
  refine z_iinc (x := l5) (lsx9 := fun v1 => [(5, .int v1), (0, .ref 87), (1, .int 1), (2, .int l2), (3, .int l3), (4, .int l4)]) rfl rfl rfl jko_1 (by omega) rfl (fun _ => rfl) (fun v1 ev1 => ?_)
  refine x_goto (tgt := 61) rfl rfl ?_
  try rw [show (l5.toInt + 1) = v1.toInt from by omega] at D
  exact jX.sub (jsb_c rfl (jsb_c rfl (jsb_c rfl (jsb_c rfl (jsb_c rfl (jsb_c rfl jsb_n)))))) (k61 l2 l3 l4 v1 h (by omega) (jr_of rfl (by omega)) (jr_of rfl (by omega)) (jr_of rfl (by omega)) (jr_of rfl (by omega)) J Sm D)
set_option maxRecDepth 100000 in
set_option maxHeartbeats 4000000 in
theorem ct_X3_place_r87_c1d_131 {Dy : jH → Prop} {h0 : jH} {Q : Option Value → jH → Prop} {dr : jW} {K61 : Int → Int → Int → Int → jW → jW} {R61 : Int} (hD : jDk Dy) (hQ : ∀ hx9, jJ jSgX Dy hx9 → jSm fp_X3_place_r87_c1d h0 hx9 → dr = vw hx9 → Q none hx9) (k61 : ∀ (l2 : Int32) (l3 : Int32) (l4 : Int32) (l5 : Int32) (h : jH), 2 - l5.toInt < R61 → 1 ≤ l2.toInt ∧ l2.toInt ≤ 1 → 0 ≤ l3.toInt ∧ l3.toInt ≤ 2147483647 → (-1) ≤ l4.toInt ∧ l4.toInt ≤ 8 → 0 ≤ l5.toInt ∧ l5.toInt ≤ 2 → jJ jSgX Dy h → jSm fp_X3_place_r87_c1d h0 h → K61 l2.toInt l3.toInt l4.toInt l5.toInt (vw h) = dr → jX m_X3_place 11 0 0 61 [(0, .ref 87), (1, .int 1), (2, .int l2), (3, .int l3), (4, .int l4), (5, .int l5)] [] h 0 0 Q) : ∀ (l2 : Int32) (l3 : Int32) (l4 : Int32) (l5 : Int32) (l6 : Int32) (s0 : Int32) (h : jH), 1 ≤ l2.toInt ∧ l2.toInt ≤ 1 → 0 ≤ l3.toInt ∧ l3.toInt ≤ 2147483647 → (-1) ≤ l4.toInt ∧ l4.toInt ≤ 1 → 0 ≤ l5.toInt ∧ l5.toInt ≤ 1 → 0 ≤ l6.toInt ∧ l6.toInt ≤ 2147483647 → 1 ≤ s0.toInt ∧ s0.toInt ≤ 2 → 2 - l5.toInt ≤ R61 → jJ jSgX Dy h → jSm fp_X3_place_r87_c1d h0 h → d_X3_place_r87_c1d_131 K61  l2.toInt l3.toInt l4.toInt l5.toInt l6.toInt s0.toInt (vw h) = dr → jX m_X3_place 11 0 0 131 [(0, .ref 87), (1, .int 1), (2, .int l2), (3, .int l3), (4, .int l4), (5, .int l5), (6, .int l6)] [.int s0, .int 2, .ref 87] h 0 0 Q := by
  intro l2 l3 l4 l5 l6 s0 h y0 y1 y2 y3 y4 y5  m61 J Sm D
  unfold d_X3_place_r87_c1d_131 at D
  refine x_iloadn (x := l3) rfl rfl ?_
  refine x_iload (x := l6) rfl rfl ?_
  refine z_iaddW rfl rfl rfl (fun v1 ev1 => ?_)
  have fv1 := jfull v1
  try rw [← ev1] at D
  refine x_inv (N := m_X3_place) (As := [.int 2, .int s0, .int v1]) (b := 87) (st := []) (dx9 := 10) (mc := 0) (ms := 0) (host := "") 3 rfl t_X3_place ⟨Or.inl q_3_80, i_X3_place.1, i_X3_place.2⟩ ⟨by decide, rfl⟩ (congrArg Prod.fst (J.1.1 87 (3, 14) rfl)) rfl (by decide) rfl rfl ⟨by decide, by decide⟩ (sf_X3_place_r87_c2d (jr_of rfl (by omega)) hD J rfl  (fun h J S2 X3 => ?_))
  have Sm := jSm_tr rfl Sm S2
  rw [X3] at D
  show jX m_X3_place 11 0 0 138 [(0, .ref 87), (1, .int 1), (2, .int l2), (3, .int l3), (4, .int l4), (5, .int l5), (6, .int l6)] [] _ 0 0 _
  exact jX.sub (jsb_c rfl (jsb_c rfl (jsb_c rfl (jsb_c rfl (jsb_c rfl (jsb_c rfl jsb_n)))))) (ct_X3_place_r87_c1d_138 hD hQ k61 l2 l3 l4 l5 h (jr_of rfl (by omega)) (jr_of rfl (by omega)) (jr_of rfl (by omega)) (jr_of rfl (by omega)) (by omega) J Sm D)
set_option maxRecDepth 100000 in
set_option maxHeartbeats 4000000 in
theorem ct_X3_place_r87_c1d_106 {Dy : jH → Prop} {h0 : jH} {Q : Option Value → jH → Prop} {dr : jW} {K61 : Int → Int → Int → Int → jW → jW} {R61 : Int} (hD : jDk Dy) (hQ : ∀ hx9, jJ jSgX Dy hx9 → jSm fp_X3_place_r87_c1d h0 hx9 → dr = vw hx9 → Q none hx9) (k61 : ∀ (l2 : Int32) (l3 : Int32) (l4 : Int32) (l5 : Int32) (h : jH), 2 - l5.toInt < R61 → 1 ≤ l2.toInt ∧ l2.toInt ≤ 1 → 0 ≤ l3.toInt ∧ l3.toInt ≤ 2147483647 → (-1) ≤ l4.toInt ∧ l4.toInt ≤ 8 → 0 ≤ l5.toInt ∧ l5.toInt ≤ 2 → jJ jSgX Dy h → jSm fp_X3_place_r87_c1d h0 h → K61 l2.toInt l3.toInt l4.toInt l5.toInt (vw h) = dr → jX m_X3_place 11 0 0 61 [(0, .ref 87), (1, .int 1), (2, .int l2), (3, .int l3), (4, .int l4), (5, .int l5)] [] h 0 0 Q) : ∀ (l2 : Int32) (l3 : Int32) (l4 : Int32) (l5 : Int32) (l6 : Int32) (h : jH), 1 ≤ l2.toInt ∧ l2.toInt ≤ 1 → 0 ≤ l3.toInt ∧ l3.toInt ≤ 2147483647 → (-1) ≤ l4.toInt ∧ l4.toInt ≤ 1 → 0 ≤ l5.toInt ∧ l5.toInt ≤ 1 → 0 ≤ l6.toInt ∧ l6.toInt ≤ 2147483647 → 2 - l5.toInt ≤ R61 → jJ jSgX Dy h → jSm fp_X3_place_r87_c1d h0 h → d_X3_place_r87_c1d_106 K61  l2.toInt l3.toInt l4.toInt l5.toInt l6.toInt (vw h) = dr → jX m_X3_place 11 0 0 106 [(0, .ref 87), (1, .int 1), (2, .int l2), (3, .int l3), (4, .int l4), (5, .int l5), (6, .int l6)] [] h 0 0 Q := by
  intro l2 l3 l4 l5 l6 h y0 y1 y2 y3 y4  m61 J Sm D
  unfold d_X3_place_r87_c1d_106 at D
  refine x_aloadn (x := 87) rfl rfl ?_
  refine z_getR (N := 14) (b := 91) 3 6 rfl f_3_25 rfl J rfl 11142 ⟨rfl, rfl⟩ rfl ?_
  refine x_iloadn (x := 1) rfl rfl ?_
  refine x_iload (x := l5) rfl rfl ?_
  refine z_iast (N := 9) (l := 0) (u := 9) (w := l5.toInt) rfl hD J Sm rfl rfl jk_1 (by omega) rfl (wr_91 (fun q1 q2 q3 q4 => by omega)) rfl (fun h w1 J Sm => ?_)
  rw [vwn (n := 1) (by decide) w1 (show l5.toInt = l5.toInt from by omega)] at D
  refine x_aloadn (x := 87) rfl rfl ?_
  refine x_iloadn (x := 1) rfl rfl ?_
  refine x_iconst (v := 1) rfl ki_1 ?_
  refine y_iadd (v := 2) rfl (by decide) ?_
  refine x_iload (x := l5) rfl rfl ?_
  refine x_iloadn (x := l2) rfl rfl ?_
  refine x_icne (tgt := 130) rfl rfl (ti_ne rfl rfl ⟨fun c2 => ?_, fun c2 => ?_⟩)
  ·
    rw [if_neg (by omega)] at D
    refine x_iloadn (x := l2) rfl rfl ?_
    exact jX.sub (jsb_c rfl (jsb_c rfl (jsb_c rfl (jsb_c rfl (jsb_c rfl (jsb_c rfl (jsb_c rfl jsb_n))))))) (ct_X3_place_r87_c1d_131 hD hQ k61 l2 l3 l4 l5 l6 l2 h (jr_of rfl (by omega)) (jr_of rfl (by omega)) (jr_of rfl (by omega)) (jr_of rfl (by omega)) (jr_of rfl (by omega)) (jr_of rfl (by omega)) (by omega) J Sm D)
  ·
    rw [if_pos (by omega)] at D
    refine x_iloadn (x := l2) rfl rfl ?_
    refine x_iconst (v := 1) rfl ki_1 ?_
    refine z_iadd rfl rfl jk_1 (by omega) (fun v3 ev3 => ?_)
    refine x_goto (tgt := 131) rfl rfl ?_
    try rw [show (l2.toInt + 1) = v3.toInt from by omega] at D
    exact jX.sub (jsb_c rfl (jsb_c rfl (jsb_c rfl (jsb_c rfl (jsb_c rfl (jsb_c rfl (jsb_c rfl jsb_n))))))) (ct_X3_place_r87_c1d_131 hD hQ k61 l2 l3 l4 l5 l6 v3 h (jr_of rfl (by omega)) (jr_of rfl (by omega)) (jr_of rfl (by omega)) (jr_of rfl (by omega)) (jr_of rfl (by omega)) (jr_of rfl (by omega)) (by omega) J Sm D)
set_option maxRecDepth 100000 in
set_option maxHeartbeats 4000000 in
theorem ct_X3_place_r87_c1d_61 {Dy : jH → Prop} {h0 : jH} {Q : Option Value → jH → Prop} {dr : jW} (hD : jDk Dy) (hQ : ∀ hx9, jJ jSgX Dy hx9 → jSm fp_X3_place_r87_c1d h0 hx9 → dr = vw hx9 → Q none hx9) : ∀ r : Nat, ∀ (l2 : Int32) (l3 : Int32) (l4 : Int32) (l5 : Int32) (h : jH), 2 - l5.toInt < (r : Int) → 1 ≤ l2.toInt ∧ l2.toInt ≤ 1 → 0 ≤ l3.toInt ∧ l3.toInt ≤ 2147483647 → (-1) ≤ l4.toInt ∧ l4.toInt ≤ 8 → 0 ≤ l5.toInt ∧ l5.toInt ≤ 2 → jJ jSgX Dy h → jSm fp_X3_place_r87_c1d h0 h → d_X3_place_r87_c1d_61 r l2.toInt l3.toInt l4.toInt l5.toInt (vw h) = dr → jX m_X3_place 11 0 0 61 [(0, .ref 87), (1, .int 1), (2, .int l2), (3, .int l3), (4, .int l4), (5, .int l5)] [] h 0 0 Q := by
  intro r
  induction r with
  | zero =>
    intro l2 l3 l4 l5 h hm y0 y1 y2 y3   J Sm D
    exfalso
    omega
  | succ r ih =>
    intro l2 l3 l4 l5 h hm y0 y1 y2 y3   J Sm D
    rw [d_X3_place_r87_c1d_61.eq_2] at D
    refine x_iload (x := l5) rfl rfl ?_
    refine x_iloadn (x := l2) rfl rfl ?_
    refine x_icgt (tgt := 144) rfl rfl (ti_gt rfl rfl ⟨fun c1 => ?_, fun c1 => ?_⟩)
    ·
      rw [if_pos (by omega)] at D
      exact jX.sub jsb_n (ct_X3_place_r87_c1d_144 hD hQ  h J Sm D)
    ·
      rw [if_neg (by omega)] at D
      refine x_iload (x := l5) rfl rfl ?_
      refine x_bipush (v := 10) rfl kb_10 ?_
      refine x_icge (tgt := 144) rfl rfl (ti_ge rfl jk_10 (br_f (by omega) ?_))
      refine x_aloadn (x := 87) rfl rfl ?_
      refine z_getR (N := 14) (b := 93) 3 8 rfl f_3_31 rfl J rfl 11144 ⟨rfl, rfl⟩ rfl ?_
      refine x_iloadn (x := 1) rfl rfl ?_
      refine x_bipush (v := 10) rfl kb_10 ?_
      refine y_imul (v := 10) rfl (by decide) ?_
      refine x_iload (x := l5) rfl rfl ?_
      refine z_iadd rfl jk_10 rfl (by omega) (fun v2 ev2 => ?_)
      refine z_iald0 (N := 90) rfl J rfl rfl (by omega) (fun v3 qv3 => ?_)
      have ev3 := jfull v3
      try rw [vrd qv3 (show (10 + l5.toInt) = v2.toInt from by omega)] at D
      refine x_istore (lsx9 := [(6, .int v3), (0, .ref 87), (1, .int 1), (2, .int l2), (3, .int l3), (4, .int l4), (5, .int l5)]) rfl rfl rfl ?_
      refine x_iload (x := v3) rfl rfl ?_
      refine x_iflt (tgt := 138) rfl rfl (ti_lt rfl jk_0 ⟨fun c4 => ?_, fun c4 => ?_⟩)
      ·
        rw [if_pos (by omega)] at D
        exact jX.sub (jsb_c rfl (jsb_c rfl (jsb_c rfl (jsb_c rfl (jsb_c rfl (jsb_c rfl jsb_n)))))) (ct_X3_place_r87_c1d_138 hD hQ ih l2 l3 l4 l5 h (jr_of rfl (by omega)) (jr_of rfl (by omega)) (jr_of rfl (by omega)) (jr_of rfl (by omega)) (by omega) J Sm D)
      ·
        rw [if_neg (by omega)] at D
        refine x_iload (x := l4) rfl rfl ?_
        refine x_iconst (v := (-1)) rfl ki_m1 ?_
        refine x_iceq (tgt := 106) rfl rfl (ti_eq rfl jk_m1 ⟨fun c5 => ?_, fun c5 => ?_⟩)
        ·
          rw [if_pos (by omega)] at D
          exact jX.sub (jsb_c rfl (jsb_c rfl (jsb_c rfl (jsb_c rfl (jsb_c rfl (jsb_c rfl (jsb_c rfl jsb_n))))))) (ct_X3_place_r87_c1d_106 hD hQ ih l2 l3 l4 l5 v3 h (jr_of rfl (by omega)) (jr_of rfl (by omega)) (jr_of rfl (by omega)) (jr_of rfl (by omega)) (jr_of rfl (by omega)) (by omega) J Sm D)
        ·
          rw [if_neg (by omega)] at D
          refine x_iload (x := l4) rfl rfl ?_
          refine x_iload (x := l5) rfl rfl ?_
          refine x_icne (tgt := 138) rfl rfl (ti_ne rfl rfl ⟨fun c6 => ?_, fun c6 => ?_⟩)
          ·
            rw [if_neg (by omega)] at D
            exact jX.sub (jsb_c rfl (jsb_c rfl (jsb_c rfl (jsb_c rfl (jsb_c rfl (jsb_c rfl jsb_n)))))) (ct_X3_place_r87_c1d_138 hD hQ ih l2 l3 l4 l5 h (jr_of rfl (by omega)) (jr_of rfl (by omega)) (jr_of rfl (by omega)) (jr_of rfl (by omega)) (by omega) J Sm D)
          ·
            rw [if_pos (by omega)] at D
            exact jX.sub (jsb_c rfl (jsb_c rfl (jsb_c rfl (jsb_c rfl (jsb_c rfl (jsb_c rfl (jsb_c rfl jsb_n))))))) (ct_X3_place_r87_c1d_106 hD hQ ih l2 l3 l4 l5 v3 h (jr_of rfl (by omega)) (jr_of rfl (by omega)) (jr_of rfl (by omega)) (jr_of rfl (by omega)) (jr_of rfl (by omega)) (by omega) J Sm D)
set_option maxRecDepth 100000 in
set_option maxHeartbeats 4000000 in
theorem ct_X3_place_r87_c1d_56 {Dy : jH → Prop} {h0 : jH} {Q : Option Value → jH → Prop} {dr : jW} (hD : jDk Dy) (hQ : ∀ hx9, jJ jSgX Dy hx9 → jSm fp_X3_place_r87_c1d h0 hx9 → dr = vw hx9 → Q none hx9) : ∀ (l2 : Int32) (l3 : Int32) (s0 : Int32) (h : jH), 1 ≤ l2.toInt ∧ l2.toInt ≤ 1 → 0 ≤ l3.toInt ∧ l3.toInt ≤ 2147483647 → 0 ≤ s0.toInt ∧ s0.toInt ≤ 8 → jJ jSgX Dy h → jSm fp_X3_place_r87_c1d h0 h → d_X3_place_r87_c1d_56  l2.toInt l3.toInt s0.toInt (vw h) = dr → jX m_X3_place 11 0 0 56 [(0, .ref 87), (1, .int 1), (2, .int l2), (3, .int l3)] [.int s0] h 0 0 Q := by
  intro l2 l3 s0 h y0 y1 y2   J Sm D
  unfold d_X3_place_r87_c1d_56 at D
  refine x_istore (lsx9 := [(4, .int s0), (0, .ref 87), (1, .int 1), (2, .int l2), (3, .int l3)]) rfl rfl rfl ?_
  refine x_iconst (v := 0) rfl ki_0 ?_
  refine x_istore (lsx9 := [(5, .int 0), (4, .int s0), (0, .ref 87), (1, .int 1), (2, .int l2), (3, .int l3)]) rfl rfl rfl ?_
  exact jX.sub (jsb_c rfl (jsb_c rfl (jsb_c rfl (jsb_c rfl (jsb_c rfl (jsb_c rfl jsb_n)))))) (ct_X3_place_r87_c1d_61 hD hQ  3 l2 l3 s0 0 h (by have := jk_0; omega) (jr_of rfl (by omega)) (jr_of rfl (by omega)) (jr_of rfl (by omega)) (jr_of jk_0 (by omega)) J Sm (by rw [jk_0]; exact D))
set_option maxRecDepth 100000 in
set_option maxHeartbeats 4000000 in
theorem ct_X3_place_r87_c1d_100056 {Dy : jH → Prop} {h0 : jH} {Q : Option Value → jH → Prop} {dr : jW} (hD : jDk Dy) (hQ : ∀ hx9, jJ jSgX Dy hx9 → jSm fp_X3_place_r87_c1d h0 hx9 → dr = vw hx9 → Q none hx9) : ∀ (l2 : Int32) (l3 : Int32) (h : jH), 1 ≤ l2.toInt ∧ l2.toInt ≤ 1 → 0 ≤ l3.toInt ∧ l3.toInt ≤ 2147483647 → jJ jSgX Dy h → jSm fp_X3_place_r87_c1d h0 h → d_X3_place_r87_c1d_100056  l2.toInt l3.toInt (vw h) = dr → jX m_X3_place 11 0 0 56 [(0, .ref 87), (1, .int 1), (2, .int l2), (3, .int l3)] [.int (-1)] h 0 0 Q := by
  intro l2 l3 h y0 y1   J Sm D
  unfold d_X3_place_r87_c1d_100056 at D
  refine x_istore (lsx9 := [(4, .int (-1)), (0, .ref 87), (1, .int 1), (2, .int l2), (3, .int l3)]) rfl rfl rfl ?_
  refine x_iconst (v := 0) rfl ki_0 ?_
  refine x_istore (lsx9 := [(5, .int 0), (4, .int (-1)), (0, .ref 87), (1, .int 1), (2, .int l2), (3, .int l3)]) rfl rfl rfl ?_
  exact jX.sub (jsb_c rfl (jsb_c rfl (jsb_c rfl (jsb_c rfl (jsb_c rfl (jsb_c rfl jsb_n)))))) (ct_X3_place_r87_c1d_61 hD hQ  3 l2 l3 (-1) 0 h (by have := jk_0; omega) (jr_of rfl (by omega)) (jr_of rfl (by omega)) (jr_of jk_m1 (by omega)) (jr_of jk_0 (by omega)) J Sm (by rw [jk_m1, jk_0]; exact D))
set_option maxRecDepth 100000 in
set_option maxHeartbeats 4000000 in
theorem sf_X3_place_r87_c1d {Dy : jH → Prop} {h : jH} {Q : Option Value → jH → Prop} {dr : jW} {a2 : Int32} {a3 : Int32} (y2 : 1 ≤ a2.toInt ∧ a2.toInt ≤ 1) (y3 : 0 ≤ a3.toInt ∧ a3.toInt ≤ 2147483647) (hD : jDk Dy) (J : jJ jSgX Dy h) (D : d_X3_place_r87_c1d a2.toInt a3.toInt (vw h) = dr) (hQ : ∀ hx9, jJ jSgX Dy hx9 → jSm fp_X3_place_r87_c1d h hx9 → dr = vw hx9 → Q none hx9) : jC m_X3_place 11 0 0 [.ref 87, .int 1, .int a2, .int a3] h Q := by
  refine jC.of rfl k_X3_place rfl ?_
  have Sm := jSm_rf fp_X3_place_r87_c1d h
  show jX m_X3_place 11 0 0 0 [(0, .ref 87), (1, .int 1), (2, .int a2), (3, .int a3)] [] _ 0 0 _
  unfold d_X3_place_r87_c1d at D
  refine x_iloadn (x := 1) rfl rfl ?_
  refine x_iflt (tgt := 18) rfl rfl (ti_lt jk_1 jk_0 (br_f (by omega) ?_))
  refine x_iloadn (x := 1) rfl rfl ?_
  refine x_aloadn (x := 87) rfl rfl ?_
  refine z_getI (N := 14) 3 3 rfl f_3_15 rfl J rfl sg_87_3_4_1_0_1 (fun v1 qv1 ev1 => ?_)
  try rw [vrf qv1] at D
  refine x_icge (tgt := 18) rfl rfl (ti_ge jk_1 rfl ⟨fun c2 => ?_, fun c2 => ?_⟩)
  ·
    rw [if_pos (by omega)] at D
    exact jX.sub (jsb_c rfl (jsb_c rfl (jsb_c rfl jsb_n))) (ct_X3_place_r87_c1d_18 hD hQ  a2 a3 h (jr_of rfl (by omega)) (jr_of rfl (by omega)) J Sm D)
  ·
    rw [if_neg (by omega)] at D
    refine x_iloadn (x := 1) rfl rfl ?_
    refine x_bipush (v := 9) rfl kb_9 ?_
    refine x_iclt (tgt := 25) rfl rfl (ti_lt jk_1 jk_9 (br_t (by omega) ?_))
    refine x_aloadn (x := 87) rfl rfl ?_
    refine x_iloadn (x := 1) rfl rfl ?_
    refine x_iloadn (x := a2) rfl rfl ?_
    refine x_inv (N := m_X3_readGains) (As := [.int 1, .int a2]) (b := 87) (st := []) (dx9 := 1) (mc := 0) (ms := 0) (host := "") 3 rfl t_X3_readGains ⟨Or.inl q_3_97, i_X3_readGains.1, i_X3_readGains.2⟩ ⟨by decide, rfl⟩ (congrArg Prod.fst (J.1.1 87 (3, 14) rfl)) rfl (by decide) rfl rfl ⟨by decide, by decide⟩ (sf_X3_readGains_r87d (jr_of jk_1 (by omega)) (jr_of rfl (by omega)) hD J rfl  (fun h J S3 X4 => ?_))
    have Sm := jSm_tr rfl Sm S3
    try rw [jk_1] at X4
    rw [X4] at D
    show jX m_X3_place 11 0 0 31 [(0, .ref 87), (1, .int 1), (2, .int a2), (3, .int a3)] [] _ 0 0 _
    refine x_aloadn (x := 87) rfl rfl ?_
    refine z_getR (N := 14) (b := 90) 3 5 rfl f_3_22 rfl J rfl 11141 ⟨rfl, rfl⟩ rfl ?_
    refine x_iloadn (x := 1) rfl rfl ?_
    refine z_iald (N := 9) rfl J rfl sg_90_0_9_1_0_1 jk_1 (by omega) (fun v5 qv5 ev5 => ?_)
    try rw [vrn (n := 1) (by decide) (jmb_c S3 qv5 rfl)] at D
    refine x_iconst (v := (-1)) rfl ki_m1 ?_
    refine x_icne (tgt := 45) rfl rfl (ti_ne rfl jk_m1 ⟨fun c6 => ?_, fun c6 => ?_⟩)
    ·
      rw [if_neg (by omega)] at D
      refine x_aloadn (x := 87) rfl rfl ?_
      refine z_getR (N := 14) (b := 91) 3 6 rfl f_3_25 rfl J rfl 11142 ⟨rfl, rfl⟩ rfl ?_
      refine x_aloadn (x := 87) rfl rfl ?_
      refine z_getR (N := 14) (b := 90) 3 5 rfl f_3_22 rfl J rfl 11141 ⟨rfl, rfl⟩ rfl ?_
      refine x_iloadn (x := 1) rfl rfl ?_
      refine z_ialdM (N := 9) (v := v5) rfl J rfl jk_1 (by omega) qv5 ?_
      refine z_iald (N := 9) rfl J rfl sg_91_0_9_1_0_1 rfl (by omega) (fun v7 qv7 ev7 => ?_)
      try rw [vrd (jmb_c S3 qv7 rfl) (show v5.toInt = v5.toInt from by omega)] at D
      exact jX.sub (jsb_c rfl (jsb_c rfl (jsb_c rfl (jsb_c rfl jsb_n)))) (ct_X3_place_r87_c1d_56 hD hQ  a2 a3 v7 h (jr_of rfl (by omega)) (jr_of rfl (by omega)) (jr_of rfl (by omega)) J Sm D)
    ·
      rw [if_pos (by omega)] at D
      refine x_iconst (v := (-1)) rfl ki_m1 ?_
      refine x_goto (tgt := 56) rfl rfl ?_
      exact jX.sub (jsb_c rfl (jsb_c rfl (jsb_c rfl (jsb_c rfl jsb_n)))) (ct_X3_place_r87_c1d_100056 hD hQ  a2 a3 h (jr_of rfl (by omega)) (jr_of rfl (by omega)) J Sm D)
def fp_X3_place_r87_c0d : jFp := [(87, 10, 11), (87, 11, 12), (91, 0, 9), (92, 0, 9), (93, 0, 90), (94, 0, 14401)]
set_option maxRecDepth 100000 in
set_option maxHeartbeats 4000000 in
theorem ct_X3_place_r87_c0d_18 {Dy : jH → Prop} {h0 : jH} {Q : Option Value → jH → Prop} {dr : jW} (hD : jDk Dy) (hQ : ∀ hx9, jJ jSgX Dy hx9 → jSm fp_X3_place_r87_c0d h0 hx9 → dr = vw hx9 → Q none hx9) : ∀ (l2 : Int32) (l3 : Int32) (h : jH), 0 ≤ l2.toInt ∧ l2.toInt ≤ 0 → 0 ≤ l3.toInt ∧ l3.toInt ≤ 0 → jJ jSgX Dy h → jSm fp_X3_place_r87_c0d h0 h → d_X3_place_r87_c0d_18  l2.toInt l3.toInt (vw h) = dr → jX m_X3_place 12 0 0 18 [(0, .ref 87), (2, .int l2), (3, .int l3)] [] h 0 0 Q := by
  intro l2 l3 h y0 y1   J Sm D
  unfold d_X3_place_r87_c0d_18 at D
  refine x_aloadn (x := 87) rfl rfl ?_
  refine x_iloadn (x := l2) rfl rfl ?_
  refine x_iloadn (x := l3) rfl rfl ?_
  refine x_inv (N := m_X3_note) (As := [.int l2, .int l3]) (b := 87) (st := []) (dx9 := 11) (mc := 0) (ms := 0) (host := "") 3 rfl t_X3_note ⟨Or.inl q_3_93, i_X3_note.1, i_X3_note.2⟩ ⟨by decide, rfl⟩ (congrArg Prod.fst (J.1.1 87 (3, 14) rfl)) rfl (by decide) rfl rfl ⟨by decide, by decide⟩ (jC.of rfl k_X3_note rfl ?_)
  show jX m_X3_note 11 0 0 0 [(0, .ref 87), (1, .int l2), (2, .int l3)] [] _ 0 0 _
  refine x_iloadn (x := l3) rfl rfl ?_
  refine x_iflt (tgt := 23) rfl rfl (ti_lt rfl jk_0 (br_f (by omega) ?_))
  refine x_iloadn (x := l3) rfl rfl ?_
  refine x_aloadn (x := 87) rfl rfl ?_
  refine z_getR (N := 14) (b := 94) 3 9 rfl f_3_34 rfl J rfl 11145 ⟨rfl, rfl⟩ rfl ?_
  refine z_alen (N := 14401) (v := 14401) rfl J rfl rfl (by decide) ?_
  refine x_icge (tgt := 23) rfl rfl (ti_ge rfl jk_14401 (br_f (by omega) ?_))
  refine x_aloadn (x := 87) rfl rfl ?_
  refine z_getR (N := 14) (b := 94) 3 9 rfl f_3_34 rfl J rfl 11145 ⟨rfl, rfl⟩ rfl ?_
  refine x_iloadn (x := l3) rfl rfl ?_
  refine x_dup2 rfl rfl rfl ?_
  refine z_iald0 (N := 14401) rfl J rfl rfl (by omega) (fun v1 qv1 => ?_)
  have ev1 := jfull v1
  try rw [vrd qv1 (show l3.toInt = l3.toInt from by omega)] at D
  refine x_iconst (v := 1) rfl ki_1 ?_
  refine z_iaddW rfl rfl jk_1 (fun v2 ev2 => ?_)
  have fv2 := jfull v2
  try rw [← ev2] at D
  refine z_iast (N := 14401) (l := 0) (u := 14401) (w := v2.toInt) rfl hD J Sm rfl rfl rfl (by omega) rfl (wr_94) rfl (fun h w3 J Sm => ?_)
  rw [vww w3 (show l3.toInt = l3.toInt from by omega) (show v2.toInt = v2.toInt from by omega)] at D
  refine x_iloadn (x := l3) rfl rfl ?_
  refine x_aloadn (x := 87) rfl rfl ?_
  refine z_getI (N := 14) 3 10 rfl f_3_37 rfl J rfl sg_87_10_11_1_0_1 (fun v4 qv4 ev4 => ?_)
  try rw [vrf (jmb_w w3 qv4 rfl)] at D
  refine x_icgt (tgt := 47) rfl rfl (ti_gt rfl rfl ⟨fun c5 => ?_, fun c5 => ?_⟩)
  ·
    rw [if_pos (by omega)] at D
    refine x_aloadn (x := 87) rfl rfl ?_
    refine x_iloadn (x := l3) rfl rfl ?_
    refine z_putI (N := 14) (w := l3.toInt) 3 10 rfl f_3_37 rfl (jfin_no TX3 RX3 14 rfl rfl) hD J Sm rfl rfl rfl (pw_87_10 (by omega)) rfl (fun h w6 J Sm => ?_)
    rw [vwf w6 (show l3.toInt = l3.toInt from by omega)] at D
    refine x_aloadn (x := 87) rfl rfl ?_
    refine x_iloadn (x := l2) rfl rfl ?_
    refine z_putI (N := 14) (w := l2.toInt) 3 11 rfl f_3_40 rfl (jfin_no TX3 RX3 14 rfl rfl) hD J Sm rfl rfl rfl (pw_87_11 (by omega)) rfl (fun h w7 J Sm => ?_)
    rw [vwf w7 (show l2.toInt = l2.toInt from by omega)] at D
    refine x_aloadn (x := 87) rfl rfl ?_
    refine z_getR (N := 14) (b := 91) 3 6 rfl f_3_25 rfl J rfl 11142 ⟨rfl, rfl⟩ rfl ?_
    refine x_iconst (v := 0) rfl ki_0 ?_
    refine x_aloadn (x := 87) rfl rfl ?_
    refine z_getR (N := 14) (b := 92) 3 7 rfl f_3_28 rfl J rfl 11143 ⟨rfl, rfl⟩ rfl ?_
    refine x_iconst (v := 0) rfl ki_0 ?_
    refine x_bipush (v := 9) rfl kb_9 ?_
    refine z_cpi (N1 := 9) (N2 := 9) rfl ⟨q_3_100, jcp_w⟩ (by decide) rfl hD J Sm rfl rfl rfl rfl jk_0 jk_0 jk_9 (by omega) (cp_92 (fun k k1 k2 k3 => by have k4 := k3.1; have k5 := k3.2.1; have k6 := k3.2.2; simp only at k4 k5 k6; exact jcp_in J sg_91_0_9_1_0_1 rfl (by omega) (by decide))) rfl (fun h w8 J Sm => ?_)
    rw [vwk w8 (show (0 : Int) = (0 : Int32).toInt from by decide) (show (0 : Int) = (0 : Int32).toInt from by decide) (show (9 : Int) = (9 : Int32).toInt from by decide)] at D
    refine x_vret rfl rfl ?_
    show jX m_X3_place 12 0 0 24 [(0, .ref 87), (2, .int l2), (3, .int l3)] [] _ 0 0 _
    refine x_vret rfl rfl ?_
    exact hQ _ J Sm D.symm
  ·
    rw [if_neg (by omega)] at D
    refine x_iloadn (x := l3) rfl rfl ?_
    refine x_aloadn (x := 87) rfl rfl ?_
    refine z_getM (N := 14) (v := v4) 3 10 rfl f_3_37 rfl J rfl qv4 ?_
    refine x_icne (tgt := 72) rfl rfl (ti_ne rfl rfl ⟨fun c9 => ?_, fun c9 => ?_⟩)
    ·
      rw [if_neg (by omega)] at D
      refine x_vret rfl rfl ?_
      show jX m_X3_place 12 0 0 24 [(0, .ref 87), (2, .int l2), (3, .int l3)] [] _ 0 0 _
      refine x_vret rfl rfl ?_
      exact hQ _ J Sm D.symm
    ·
      rw [if_pos (by omega)] at D
      refine x_iloadn (x := l2) rfl rfl ?_
      refine x_aloadn (x := 87) rfl rfl ?_
      refine z_getI (N := 14) 3 11 rfl f_3_40 rfl J rfl sg_87_11_12_1_0_1 (fun v10 qv10 ev10 => ?_)
      try rw [vrf (jmb_w w3 qv10 rfl)] at D
      refine x_icge (tgt := 72) rfl rfl (ti_ge rfl rfl ⟨fun c11 => ?_, fun c11 => ?_⟩)
      ·
        rw [if_pos (by omega)] at D
        refine x_vret rfl rfl ?_
        show jX m_X3_place 12 0 0 24 [(0, .ref 87), (2, .int l2), (3, .int l3)] [] _ 0 0 _
        refine x_vret rfl rfl ?_
        exact hQ _ J Sm D.symm
      ·
        rw [if_neg (by omega)] at D
        refine x_aloadn (x := 87) rfl rfl ?_
        refine x_iloadn (x := l3) rfl rfl ?_
        refine z_putI (N := 14) (w := l3.toInt) 3 10 rfl f_3_37 rfl (jfin_no TX3 RX3 14 rfl rfl) hD J Sm rfl rfl rfl (pw_87_10 (by omega)) rfl (fun h w12 J Sm => ?_)
        rw [vwf w12 (show l3.toInt = l3.toInt from by omega)] at D
        refine x_aloadn (x := 87) rfl rfl ?_
        refine x_iloadn (x := l2) rfl rfl ?_
        refine z_putI (N := 14) (w := l2.toInt) 3 11 rfl f_3_40 rfl (jfin_no TX3 RX3 14 rfl rfl) hD J Sm rfl rfl rfl (pw_87_11 (by omega)) rfl (fun h w13 J Sm => ?_)
        rw [vwf w13 (show l2.toInt = l2.toInt from by omega)] at D
        refine x_aloadn (x := 87) rfl rfl ?_
        refine z_getR (N := 14) (b := 91) 3 6 rfl f_3_25 rfl J rfl 11142 ⟨rfl, rfl⟩ rfl ?_
        refine x_iconst (v := 0) rfl ki_0 ?_
        refine x_aloadn (x := 87) rfl rfl ?_
        refine z_getR (N := 14) (b := 92) 3 7 rfl f_3_28 rfl J rfl 11143 ⟨rfl, rfl⟩ rfl ?_
        refine x_iconst (v := 0) rfl ki_0 ?_
        refine x_bipush (v := 9) rfl kb_9 ?_
        refine z_cpi (N1 := 9) (N2 := 9) rfl ⟨q_3_100, jcp_w⟩ (by decide) rfl hD J Sm rfl rfl rfl rfl jk_0 jk_0 jk_9 (by omega) (cp_92 (fun k k1 k2 k3 => by have k4 := k3.1; have k5 := k3.2.1; have k6 := k3.2.2; simp only at k4 k5 k6; exact jcp_in J sg_91_0_9_1_0_1 rfl (by omega) (by decide))) rfl (fun h w14 J Sm => ?_)
        rw [vwk w14 (show (0 : Int) = (0 : Int32).toInt from by decide) (show (0 : Int) = (0 : Int32).toInt from by decide) (show (9 : Int) = (9 : Int32).toInt from by decide)] at D
        refine x_vret rfl rfl ?_
        show jX m_X3_place 12 0 0 24 [(0, .ref 87), (2, .int l2), (3, .int l3)] [] _ 0 0 _
        refine x_vret rfl rfl ?_
        exact hQ _ J Sm D.symm
set_option maxRecDepth 100000 in
set_option maxHeartbeats 4000000 in
theorem ct_X3_place_r87_c0d_144 {Dy : jH → Prop} {h0 : jH} {Q : Option Value → jH → Prop} {dr : jW} (hD : jDk Dy) (hQ : ∀ hx9, jJ jSgX Dy hx9 → jSm fp_X3_place_r87_c0d h0 hx9 → dr = vw hx9 → Q none hx9) : ∀ (h : jH), jJ jSgX Dy h → jSm fp_X3_place_r87_c0d h0 h → d_X3_place_r87_c0d_144  (vw h) = dr → jX m_X3_place 12 0 0 144 [] [] h 0 0 Q := by
  intro  h    J Sm D
  unfold d_X3_place_r87_c0d_144 at D
  refine x_vret rfl rfl ?_
  exact hQ _ J Sm D.symm
set_option maxRecDepth 100000 in
set_option maxHeartbeats 4000000 in
theorem ct_X3_place_r87_c0d_138 {Dy : jH → Prop} {h0 : jH} {Q : Option Value → jH → Prop} {dr : jW} {K61 : Int → Int → Int → Int → jW → jW} {R61 : Int} (hD : jDk Dy) (hQ : ∀ hx9, jJ jSgX Dy hx9 → jSm fp_X3_place_r87_c0d h0 hx9 → dr = vw hx9 → Q none hx9) (k61 : ∀ (l2 : Int32) (l3 : Int32) (l4 : Int32) (l5 : Int32) (h : jH), 1 - l5.toInt < R61 → 0 ≤ l2.toInt ∧ l2.toInt ≤ 0 → 0 ≤ l3.toInt ∧ l3.toInt ≤ 0 → (-1) ≤ l4.toInt ∧ l4.toInt ≤ 8 → 0 ≤ l5.toInt ∧ l5.toInt ≤ 1 → jJ jSgX Dy h → jSm fp_X3_place_r87_c0d h0 h → K61 l2.toInt l3.toInt l4.toInt l5.toInt (vw h) = dr → jX m_X3_place 12 0 0 61 [(0, .ref 87), (1, .int 0), (2, .int l2), (3, .int l3), (4, .int l4), (5, .int l5)] [] h 0 0 Q) : ∀ (l2 : Int32) (l3 : Int32) (l4 : Int32) (l5 : Int32) (h : jH), 0 ≤ l2.toInt ∧ l2.toInt ≤ 0 → 0 ≤ l3.toInt ∧ l3.toInt ≤ 0 → (-1) ≤ l4.toInt ∧ l4.toInt ≤ 8 → 0 ≤ l5.toInt ∧ l5.toInt ≤ 0 → 1 - l5.toInt ≤ R61 → jJ jSgX Dy h → jSm fp_X3_place_r87_c0d h0 h → d_X3_place_r87_c0d_138 K61  l2.toInt l3.toInt l4.toInt l5.toInt (vw h) = dr → jX m_X3_place 12 0 0 138 [(0, .ref 87), (1, .int 0), (2, .int l2), (3, .int l3), (4, .int l4), (5, .int l5)] [] h 0 0 Q := by
  intro l2 l3 l4 l5 h y0 y1 y2 y3  m61 J Sm D
  unfold d_X3_place_r87_c0d_138 at D
  refine z_iinc (x := l5) (lsx9 := fun v1 => [(5, .int v1), (0, .ref 87), (1, .int 0), (2, .int l2), (3, .int l3), (4, .int l4)]) rfl rfl rfl jko_1 (by omega) rfl (fun _ => rfl) (fun v1 ev1 => ?_)
  refine x_goto (tgt := 61) rfl rfl ?_
  try rw [show (l5.toInt + 1) = v1.toInt from by omega] at D
  exact jX.sub (jsb_c rfl (jsb_c rfl (jsb_c rfl (jsb_c rfl (jsb_c rfl (jsb_c rfl jsb_n)))))) (k61 l2 l3 l4 v1 h (by omega) (jr_of rfl (by omega)) (jr_of rfl (by omega)) (jr_of rfl (by omega)) (jr_of rfl (by omega)) J Sm D)
set_option maxRecDepth 100000 in
set_option maxHeartbeats 4000000 in
theorem ct_X3_place_r87_c0d_131 {Dy : jH → Prop} {h0 : jH} {Q : Option Value → jH → Prop} {dr : jW} {K61 : Int → Int → Int → Int → jW → jW} {R61 : Int} (hD : jDk Dy) (hQ : ∀ hx9, jJ jSgX Dy hx9 → jSm fp_X3_place_r87_c0d h0 hx9 → dr = vw hx9 → Q none hx9) (k61 : ∀ (l2 : Int32) (l3 : Int32) (l4 : Int32) (l5 : Int32) (h : jH), 1 - l5.toInt < R61 → 0 ≤ l2.toInt ∧ l2.toInt ≤ 0 → 0 ≤ l3.toInt ∧ l3.toInt ≤ 0 → (-1) ≤ l4.toInt ∧ l4.toInt ≤ 8 → 0 ≤ l5.toInt ∧ l5.toInt ≤ 1 → jJ jSgX Dy h → jSm fp_X3_place_r87_c0d h0 h → K61 l2.toInt l3.toInt l4.toInt l5.toInt (vw h) = dr → jX m_X3_place 12 0 0 61 [(0, .ref 87), (1, .int 0), (2, .int l2), (3, .int l3), (4, .int l4), (5, .int l5)] [] h 0 0 Q) : ∀ (l2 : Int32) (l3 : Int32) (l4 : Int32) (l5 : Int32) (l6 : Int32) (s0 : Int32) (h : jH), 0 ≤ l2.toInt ∧ l2.toInt ≤ 0 → 0 ≤ l3.toInt ∧ l3.toInt ≤ 0 → (-1) ≤ l4.toInt ∧ l4.toInt ≤ 0 → 0 ≤ l5.toInt ∧ l5.toInt ≤ 0 → 0 ≤ l6.toInt ∧ l6.toInt ≤ 2147483647 → 1 ≤ s0.toInt ∧ s0.toInt ≤ 1 → 1 - l5.toInt ≤ R61 → jJ jSgX Dy h → jSm fp_X3_place_r87_c0d h0 h → d_X3_place_r87_c0d_131 K61  l2.toInt l3.toInt l4.toInt l5.toInt l6.toInt s0.toInt (vw h) = dr → jX m_X3_place 12 0 0 131 [(0, .ref 87), (1, .int 0), (2, .int l2), (3, .int l3), (4, .int l4), (5, .int l5), (6, .int l6)] [.int s0, .int 1, .ref 87] h 0 0 Q := by
  intro l2 l3 l4 l5 l6 s0 h y0 y1 y2 y3 y4 y5  m61 J Sm D
  unfold d_X3_place_r87_c0d_131 at D
  refine x_iloadn (x := l3) rfl rfl ?_
  refine x_iload (x := l6) rfl rfl ?_
  refine z_iadd rfl rfl rfl (by omega) (fun v1 ev1 => ?_)
  try rw [show (l3.toInt + l6.toInt) = v1.toInt from by omega] at D
  refine x_inv (N := m_X3_place) (As := [.int 1, .int s0, .int v1]) (b := 87) (st := []) (dx9 := 11) (mc := 0) (ms := 0) (host := "") 3 rfl t_X3_place ⟨Or.inl q_3_80, i_X3_place.1, i_X3_place.2⟩ ⟨by decide, rfl⟩ (congrArg Prod.fst (J.1.1 87 (3, 14) rfl)) rfl (by decide) rfl rfl ⟨by decide, by decide⟩ (sf_X3_place_r87_c1d (jr_of rfl (by omega)) (jr_of rfl (by omega)) hD J rfl  (fun h J S2 X3 => ?_))
  have Sm := jSm_tr rfl Sm S2
  rw [X3] at D
  show jX m_X3_place 12 0 0 138 [(0, .ref 87), (1, .int 0), (2, .int l2), (3, .int l3), (4, .int l4), (5, .int l5), (6, .int l6)] [] _ 0 0 _
  exact jX.sub (jsb_c rfl (jsb_c rfl (jsb_c rfl (jsb_c rfl (jsb_c rfl (jsb_c rfl jsb_n)))))) (ct_X3_place_r87_c0d_138 hD hQ k61 l2 l3 l4 l5 h (jr_of rfl (by omega)) (jr_of rfl (by omega)) (jr_of rfl (by omega)) (jr_of rfl (by omega)) (by omega) J Sm D)
set_option maxRecDepth 100000 in
set_option maxHeartbeats 4000000 in
theorem ct_X3_place_r87_c0d_106 {Dy : jH → Prop} {h0 : jH} {Q : Option Value → jH → Prop} {dr : jW} {K61 : Int → Int → Int → Int → jW → jW} {R61 : Int} (hD : jDk Dy) (hQ : ∀ hx9, jJ jSgX Dy hx9 → jSm fp_X3_place_r87_c0d h0 hx9 → dr = vw hx9 → Q none hx9) (k61 : ∀ (l2 : Int32) (l3 : Int32) (l4 : Int32) (l5 : Int32) (h : jH), 1 - l5.toInt < R61 → 0 ≤ l2.toInt ∧ l2.toInt ≤ 0 → 0 ≤ l3.toInt ∧ l3.toInt ≤ 0 → (-1) ≤ l4.toInt ∧ l4.toInt ≤ 8 → 0 ≤ l5.toInt ∧ l5.toInt ≤ 1 → jJ jSgX Dy h → jSm fp_X3_place_r87_c0d h0 h → K61 l2.toInt l3.toInt l4.toInt l5.toInt (vw h) = dr → jX m_X3_place 12 0 0 61 [(0, .ref 87), (1, .int 0), (2, .int l2), (3, .int l3), (4, .int l4), (5, .int l5)] [] h 0 0 Q) : ∀ (l2 : Int32) (l3 : Int32) (l4 : Int32) (l5 : Int32) (l6 : Int32) (h : jH), 0 ≤ l2.toInt ∧ l2.toInt ≤ 0 → 0 ≤ l3.toInt ∧ l3.toInt ≤ 0 → (-1) ≤ l4.toInt ∧ l4.toInt ≤ 0 → 0 ≤ l5.toInt ∧ l5.toInt ≤ 0 → 0 ≤ l6.toInt ∧ l6.toInt ≤ 2147483647 → 1 - l5.toInt ≤ R61 → jJ jSgX Dy h → jSm fp_X3_place_r87_c0d h0 h → d_X3_place_r87_c0d_106 K61  l2.toInt l3.toInt l4.toInt l5.toInt l6.toInt (vw h) = dr → jX m_X3_place 12 0 0 106 [(0, .ref 87), (1, .int 0), (2, .int l2), (3, .int l3), (4, .int l4), (5, .int l5), (6, .int l6)] [] h 0 0 Q := by
  intro l2 l3 l4 l5 l6 h y0 y1 y2 y3 y4  m61 J Sm D
  unfold d_X3_place_r87_c0d_106 at D
  refine x_aloadn (x := 87) rfl rfl ?_
  refine z_getR (N := 14) (b := 91) 3 6 rfl f_3_25 rfl J rfl 11142 ⟨rfl, rfl⟩ rfl ?_
  refine x_iloadn (x := 0) rfl rfl ?_
  refine x_iload (x := l5) rfl rfl ?_
  refine z_iast (N := 9) (l := 0) (u := 9) (w := l5.toInt) rfl hD J Sm rfl rfl jk_0 (by omega) rfl (wr_91 (fun q1 q2 q3 q4 => by omega)) rfl (fun h w1 J Sm => ?_)
  rw [vwn (n := 0) (by decide) w1 (show l5.toInt = l5.toInt from by omega)] at D
  refine x_aloadn (x := 87) rfl rfl ?_
  refine x_iloadn (x := 0) rfl rfl ?_
  refine x_iconst (v := 1) rfl ki_1 ?_
  refine y_iadd (v := 1) rfl (by decide) ?_
  refine x_iload (x := l5) rfl rfl ?_
  refine x_iloadn (x := l2) rfl rfl ?_
  refine x_icne (tgt := 130) rfl rfl (ti_ne rfl rfl (bn_f (by omega) ?_))
  refine x_iloadn (x := l2) rfl rfl ?_
  refine x_iconst (v := 1) rfl ki_1 ?_
  refine z_iadd rfl rfl jk_1 (by omega) (fun v2 ev2 => ?_)
  refine x_goto (tgt := 131) rfl rfl ?_
  try rw [show (l2.toInt + 1) = v2.toInt from by omega] at D
  exact jX.sub (jsb_c rfl (jsb_c rfl (jsb_c rfl (jsb_c rfl (jsb_c rfl (jsb_c rfl (jsb_c rfl jsb_n))))))) (ct_X3_place_r87_c0d_131 hD hQ k61 l2 l3 l4 l5 l6 v2 h (jr_of rfl (by omega)) (jr_of rfl (by omega)) (jr_of rfl (by omega)) (jr_of rfl (by omega)) (jr_of rfl (by omega)) (jr_of rfl (by omega)) (by omega) J Sm D)
set_option maxRecDepth 100000 in
set_option maxHeartbeats 4000000 in
theorem ct_X3_place_r87_c0d_61 {Dy : jH → Prop} {h0 : jH} {Q : Option Value → jH → Prop} {dr : jW} (hD : jDk Dy) (hQ : ∀ hx9, jJ jSgX Dy hx9 → jSm fp_X3_place_r87_c0d h0 hx9 → dr = vw hx9 → Q none hx9) : ∀ r : Nat, ∀ (l2 : Int32) (l3 : Int32) (l4 : Int32) (l5 : Int32) (h : jH), 1 - l5.toInt < (r : Int) → 0 ≤ l2.toInt ∧ l2.toInt ≤ 0 → 0 ≤ l3.toInt ∧ l3.toInt ≤ 0 → (-1) ≤ l4.toInt ∧ l4.toInt ≤ 8 → 0 ≤ l5.toInt ∧ l5.toInt ≤ 1 → jJ jSgX Dy h → jSm fp_X3_place_r87_c0d h0 h → d_X3_place_r87_c0d_61 r l2.toInt l3.toInt l4.toInt l5.toInt (vw h) = dr → jX m_X3_place 12 0 0 61 [(0, .ref 87), (1, .int 0), (2, .int l2), (3, .int l3), (4, .int l4), (5, .int l5)] [] h 0 0 Q := by
  intro r
  induction r with
  | zero =>
    intro l2 l3 l4 l5 h hm y0 y1 y2 y3   J Sm D
    exfalso
    omega
  | succ r ih =>
    intro l2 l3 l4 l5 h hm y0 y1 y2 y3   J Sm D
    rw [d_X3_place_r87_c0d_61.eq_2] at D
    refine x_iload (x := l5) rfl rfl ?_
    refine x_iloadn (x := l2) rfl rfl ?_
    refine x_icgt (tgt := 144) rfl rfl (ti_gt rfl rfl ⟨fun c1 => ?_, fun c1 => ?_⟩)
    ·
      rw [if_pos (by omega)] at D
      exact jX.sub jsb_n (ct_X3_place_r87_c0d_144 hD hQ  h J Sm D)
    ·
      rw [if_neg (by omega)] at D
      refine x_iload (x := l5) rfl rfl ?_
      refine x_bipush (v := 10) rfl kb_10 ?_
      refine x_icge (tgt := 144) rfl rfl (ti_ge rfl jk_10 (br_f (by omega) ?_))
      refine x_aloadn (x := 87) rfl rfl ?_
      refine z_getR (N := 14) (b := 93) 3 8 rfl f_3_31 rfl J rfl 11144 ⟨rfl, rfl⟩ rfl ?_
      refine x_iloadn (x := 0) rfl rfl ?_
      refine x_bipush (v := 10) rfl kb_10 ?_
      refine y_imul (v := 0) rfl (by decide) ?_
      refine x_iload (x := l5) rfl rfl ?_
      refine z_iadd rfl jk_0 rfl (by omega) (fun v2 ev2 => ?_)
      refine z_iald0 (N := 90) rfl J rfl rfl (by omega) (fun v3 qv3 => ?_)
      have ev3 := jfull v3
      try rw [vrd qv3 (show (0 + l5.toInt) = v2.toInt from by omega)] at D
      refine x_istore (lsx9 := [(6, .int v3), (0, .ref 87), (1, .int 0), (2, .int l2), (3, .int l3), (4, .int l4), (5, .int l5)]) rfl rfl rfl ?_
      refine x_iload (x := v3) rfl rfl ?_
      refine x_iflt (tgt := 138) rfl rfl (ti_lt rfl jk_0 ⟨fun c4 => ?_, fun c4 => ?_⟩)
      ·
        rw [if_pos (by omega)] at D
        exact jX.sub (jsb_c rfl (jsb_c rfl (jsb_c rfl (jsb_c rfl (jsb_c rfl (jsb_c rfl jsb_n)))))) (ct_X3_place_r87_c0d_138 hD hQ ih l2 l3 l4 l5 h (jr_of rfl (by omega)) (jr_of rfl (by omega)) (jr_of rfl (by omega)) (jr_of rfl (by omega)) (by omega) J Sm D)
      ·
        rw [if_neg (by omega)] at D
        refine x_iload (x := l4) rfl rfl ?_
        refine x_iconst (v := (-1)) rfl ki_m1 ?_
        refine x_iceq (tgt := 106) rfl rfl (ti_eq rfl jk_m1 ⟨fun c5 => ?_, fun c5 => ?_⟩)
        ·
          rw [if_pos (by omega)] at D
          exact jX.sub (jsb_c rfl (jsb_c rfl (jsb_c rfl (jsb_c rfl (jsb_c rfl (jsb_c rfl (jsb_c rfl jsb_n))))))) (ct_X3_place_r87_c0d_106 hD hQ ih l2 l3 l4 l5 v3 h (jr_of rfl (by omega)) (jr_of rfl (by omega)) (jr_of rfl (by omega)) (jr_of rfl (by omega)) (jr_of rfl (by omega)) (by omega) J Sm D)
        ·
          rw [if_neg (by omega)] at D
          refine x_iload (x := l4) rfl rfl ?_
          refine x_iload (x := l5) rfl rfl ?_
          refine x_icne (tgt := 138) rfl rfl (ti_ne rfl rfl ⟨fun c6 => ?_, fun c6 => ?_⟩)
          ·
            rw [if_neg (by omega)] at D
            exact jX.sub (jsb_c rfl (jsb_c rfl (jsb_c rfl (jsb_c rfl (jsb_c rfl (jsb_c rfl jsb_n)))))) (ct_X3_place_r87_c0d_138 hD hQ ih l2 l3 l4 l5 h (jr_of rfl (by omega)) (jr_of rfl (by omega)) (jr_of rfl (by omega)) (jr_of rfl (by omega)) (by omega) J Sm D)
          ·
            rw [if_pos (by omega)] at D
            exact jX.sub (jsb_c rfl (jsb_c rfl (jsb_c rfl (jsb_c rfl (jsb_c rfl (jsb_c rfl (jsb_c rfl jsb_n))))))) (ct_X3_place_r87_c0d_106 hD hQ ih l2 l3 l4 l5 v3 h (jr_of rfl (by omega)) (jr_of rfl (by omega)) (jr_of rfl (by omega)) (jr_of rfl (by omega)) (jr_of rfl (by omega)) (by omega) J Sm D)
set_option maxRecDepth 100000 in
set_option maxHeartbeats 4000000 in
theorem ct_X3_place_r87_c0d_56 {Dy : jH → Prop} {h0 : jH} {Q : Option Value → jH → Prop} {dr : jW} (hD : jDk Dy) (hQ : ∀ hx9, jJ jSgX Dy hx9 → jSm fp_X3_place_r87_c0d h0 hx9 → dr = vw hx9 → Q none hx9) : ∀ (l2 : Int32) (l3 : Int32) (s0 : Int32) (h : jH), 0 ≤ l2.toInt ∧ l2.toInt ≤ 0 → 0 ≤ l3.toInt ∧ l3.toInt ≤ 0 → 0 ≤ s0.toInt ∧ s0.toInt ≤ 8 → jJ jSgX Dy h → jSm fp_X3_place_r87_c0d h0 h → d_X3_place_r87_c0d_56  l2.toInt l3.toInt s0.toInt (vw h) = dr → jX m_X3_place 12 0 0 56 [(0, .ref 87), (1, .int 0), (2, .int l2), (3, .int l3)] [.int s0] h 0 0 Q := by
  intro l2 l3 s0 h y0 y1 y2   J Sm D
  unfold d_X3_place_r87_c0d_56 at D
  refine x_istore (lsx9 := [(4, .int s0), (0, .ref 87), (1, .int 0), (2, .int l2), (3, .int l3)]) rfl rfl rfl ?_
  refine x_iconst (v := 0) rfl ki_0 ?_
  refine x_istore (lsx9 := [(5, .int 0), (4, .int s0), (0, .ref 87), (1, .int 0), (2, .int l2), (3, .int l3)]) rfl rfl rfl ?_
  exact jX.sub (jsb_c rfl (jsb_c rfl (jsb_c rfl (jsb_c rfl (jsb_c rfl (jsb_c rfl jsb_n)))))) (ct_X3_place_r87_c0d_61 hD hQ  2 l2 l3 s0 0 h (by have := jk_0; omega) (jr_of rfl (by omega)) (jr_of rfl (by omega)) (jr_of rfl (by omega)) (jr_of jk_0 (by omega)) J Sm (by rw [jk_0]; exact D))
set_option maxRecDepth 100000 in
set_option maxHeartbeats 4000000 in
theorem ct_X3_place_r87_c0d_100056 {Dy : jH → Prop} {h0 : jH} {Q : Option Value → jH → Prop} {dr : jW} (hD : jDk Dy) (hQ : ∀ hx9, jJ jSgX Dy hx9 → jSm fp_X3_place_r87_c0d h0 hx9 → dr = vw hx9 → Q none hx9) : ∀ (l2 : Int32) (l3 : Int32) (h : jH), 0 ≤ l2.toInt ∧ l2.toInt ≤ 0 → 0 ≤ l3.toInt ∧ l3.toInt ≤ 0 → jJ jSgX Dy h → jSm fp_X3_place_r87_c0d h0 h → d_X3_place_r87_c0d_100056  l2.toInt l3.toInt (vw h) = dr → jX m_X3_place 12 0 0 56 [(0, .ref 87), (1, .int 0), (2, .int l2), (3, .int l3)] [.int (-1)] h 0 0 Q := by
  intro l2 l3 h y0 y1   J Sm D
  unfold d_X3_place_r87_c0d_100056 at D
  refine x_istore (lsx9 := [(4, .int (-1)), (0, .ref 87), (1, .int 0), (2, .int l2), (3, .int l3)]) rfl rfl rfl ?_
  refine x_iconst (v := 0) rfl ki_0 ?_
  refine x_istore (lsx9 := [(5, .int 0), (4, .int (-1)), (0, .ref 87), (1, .int 0), (2, .int l2), (3, .int l3)]) rfl rfl rfl ?_
  exact jX.sub (jsb_c rfl (jsb_c rfl (jsb_c rfl (jsb_c rfl (jsb_c rfl (jsb_c rfl jsb_n)))))) (ct_X3_place_r87_c0d_61 hD hQ  2 l2 l3 (-1) 0 h (by have := jk_0; omega) (jr_of rfl (by omega)) (jr_of rfl (by omega)) (jr_of jk_m1 (by omega)) (jr_of jk_0 (by omega)) J Sm (by rw [jk_m1, jk_0]; exact D))
set_option maxRecDepth 100000 in
set_option maxHeartbeats 4000000 in
theorem sf_X3_place_r87_c0d {Dy : jH → Prop} {h : jH} {Q : Option Value → jH → Prop} {dr : jW} {a2 : Int32} {a3 : Int32} (y2 : 0 ≤ a2.toInt ∧ a2.toInt ≤ 0) (y3 : 0 ≤ a3.toInt ∧ a3.toInt ≤ 0) (hD : jDk Dy) (J : jJ jSgX Dy h) (D : d_X3_place_r87_c0d a2.toInt a3.toInt (vw h) = dr) (hQ : ∀ hx9, jJ jSgX Dy hx9 → jSm fp_X3_place_r87_c0d h hx9 → dr = vw hx9 → Q none hx9) : jC m_X3_place 12 0 0 [.ref 87, .int 0, .int a2, .int a3] h Q := by
  refine jC.of rfl k_X3_place rfl ?_
  have Sm := jSm_rf fp_X3_place_r87_c0d h
  show jX m_X3_place 12 0 0 0 [(0, .ref 87), (1, .int 0), (2, .int a2), (3, .int a3)] [] _ 0 0 _
  unfold d_X3_place_r87_c0d at D
  refine x_iloadn (x := 0) rfl rfl ?_
  refine x_iflt (tgt := 18) rfl rfl (ti_lt jk_0 jk_0 (br_f (by omega) ?_))
  refine x_iloadn (x := 0) rfl rfl ?_
  refine x_aloadn (x := 87) rfl rfl ?_
  refine z_getI (N := 14) 3 3 rfl f_3_15 rfl J rfl sg_87_3_4_1_0_1 (fun v1 qv1 ev1 => ?_)
  try rw [vrf qv1] at D
  refine x_icge (tgt := 18) rfl rfl (ti_ge jk_0 rfl ⟨fun c2 => ?_, fun c2 => ?_⟩)
  ·
    rw [if_pos (by omega)] at D
    exact jX.sub (jsb_c rfl (jsb_c rfl (jsb_c rfl jsb_n))) (ct_X3_place_r87_c0d_18 hD hQ  a2 a3 h (jr_of rfl (by omega)) (jr_of rfl (by omega)) J Sm D)
  ·
    rw [if_neg (by omega)] at D
    refine x_iloadn (x := 0) rfl rfl ?_
    refine x_bipush (v := 9) rfl kb_9 ?_
    refine x_iclt (tgt := 25) rfl rfl (ti_lt jk_0 jk_9 (br_t (by omega) ?_))
    refine x_aloadn (x := 87) rfl rfl ?_
    refine x_iloadn (x := 0) rfl rfl ?_
    refine x_iloadn (x := a2) rfl rfl ?_
    refine x_inv (N := m_X3_readGains) (As := [.int 0, .int a2]) (b := 87) (st := []) (dx9 := 1) (mc := 0) (ms := 0) (host := "") 3 rfl t_X3_readGains ⟨Or.inl q_3_97, i_X3_readGains.1, i_X3_readGains.2⟩ ⟨by decide, rfl⟩ (congrArg Prod.fst (J.1.1 87 (3, 14) rfl)) rfl (by decide) rfl rfl ⟨by decide, by decide⟩ (sf_X3_readGains_r87d (jr_of jk_0 (by omega)) (jr_of rfl (by omega)) hD J rfl  (fun h J S3 X4 => ?_))
    have Sm := jSm_tr rfl Sm S3
    try rw [jk_0] at X4
    rw [X4] at D
    show jX m_X3_place 12 0 0 31 [(0, .ref 87), (1, .int 0), (2, .int a2), (3, .int a3)] [] _ 0 0 _
    refine x_aloadn (x := 87) rfl rfl ?_
    refine z_getR (N := 14) (b := 90) 3 5 rfl f_3_22 rfl J rfl 11141 ⟨rfl, rfl⟩ rfl ?_
    refine x_iloadn (x := 0) rfl rfl ?_
    refine z_iald (N := 9) rfl J rfl sg_90_0_9_1_0_1 jk_0 (by omega) (fun v5 qv5 ev5 => ?_)
    try rw [vrn (n := 0) (by decide) (jmb_c S3 qv5 rfl)] at D
    refine x_iconst (v := (-1)) rfl ki_m1 ?_
    refine x_icne (tgt := 45) rfl rfl (ti_ne rfl jk_m1 ⟨fun c6 => ?_, fun c6 => ?_⟩)
    ·
      rw [if_neg (by omega)] at D
      refine x_aloadn (x := 87) rfl rfl ?_
      refine z_getR (N := 14) (b := 91) 3 6 rfl f_3_25 rfl J rfl 11142 ⟨rfl, rfl⟩ rfl ?_
      refine x_aloadn (x := 87) rfl rfl ?_
      refine z_getR (N := 14) (b := 90) 3 5 rfl f_3_22 rfl J rfl 11141 ⟨rfl, rfl⟩ rfl ?_
      refine x_iloadn (x := 0) rfl rfl ?_
      refine z_ialdM (N := 9) (v := v5) rfl J rfl jk_0 (by omega) qv5 ?_
      refine z_iald (N := 9) rfl J rfl sg_91_0_9_1_0_1 rfl (by omega) (fun v7 qv7 ev7 => ?_)
      try rw [vrd (jmb_c S3 qv7 rfl) (show v5.toInt = v5.toInt from by omega)] at D
      exact jX.sub (jsb_c rfl (jsb_c rfl (jsb_c rfl (jsb_c rfl jsb_n)))) (ct_X3_place_r87_c0d_56 hD hQ  a2 a3 v7 h (jr_of rfl (by omega)) (jr_of rfl (by omega)) (jr_of rfl (by omega)) J Sm D)
    ·
      rw [if_pos (by omega)] at D
      refine x_iconst (v := (-1)) rfl ki_m1 ?_
      refine x_goto (tgt := 56) rfl rfl ?_
      exact jX.sub (jsb_c rfl (jsb_c rfl (jsb_c rfl (jsb_c rfl jsb_n)))) (ct_X3_place_r87_c0d_100056 hD hQ  a2 a3 h (jr_of rfl (by omega)) (jr_of rfl (by omega)) J Sm D)
def fp_X7_haveKin_r78d : jFp := []
set_option maxRecDepth 100000 in
set_option maxHeartbeats 4000000 in
theorem ct_X7_haveKin_r78d_122 {Dy : jH → Prop} {h0 : jH} {Q : Option Value → jH → Prop} {dr : Int} {K6 : Int → Int → Int → jW → Int} {R6 : Int} (hD : jDk Dy) (hQ : ∀ (v : Int32) hx9, 0 ≤ v.toInt ∧ v.toInt ≤ 1 → jJ jSgX Dy hx9 → jSm fp_X7_haveKin_r78d h0 hx9 → dr = v.toInt → vw hx9 = vw h0 → Q (some (.int v)) hx9) (k6 : ∀ (l1 : Int32) (l2 : Int32) (l3 : Int32) (h : jH), 600 - l3.toInt < R6 → 0 ≤ l1.toInt ∧ l1.toInt ≤ 599 → 0 ≤ l2.toInt ∧ l2.toInt ≤ 599 → 0 ≤ l3.toInt ∧ l3.toInt ≤ 600 → jJ jSgX Dy h → jSm fp_X7_haveKin_r78d h0 h → K6 l1.toInt l2.toInt l3.toInt (vw h) = dr → vw h = vw h0 → jX m_X7_haveKin 4 0 0 6 [(0, .ref 78), (1, .int l1), (2, .int l2), (3, .int l3)] [] h 0 0 Q) : ∀ (l1 : Int32) (l2 : Int32) (l3 : Int32) (h : jH), 0 ≤ l1.toInt ∧ l1.toInt ≤ 599 → 0 ≤ l2.toInt ∧ l2.toInt ≤ 599 → 0 ≤ l3.toInt ∧ l3.toInt ≤ 599 → 600 - l3.toInt ≤ R6 → jJ jSgX Dy h → jSm fp_X7_haveKin_r78d h0 h → d_X7_haveKin_r78d_122 K6  l1.toInt l2.toInt l3.toInt (vw h) = dr → vw h = vw h0 → jX m_X7_haveKin 4 0 0 122 [(0, .ref 78), (1, .int l1), (2, .int l2), (3, .int l3)] [] h 0 0 Q := by
  intro l1 l2 l3 h y0 y1 y2  m6 J Sm D EV
  unfold d_X7_haveKin_r78d_122 at D
  refine z_iinc (x := l3) (lsx9 := fun v1 => [(3, .int v1), (0, .ref 78), (1, .int l1), (2, .int l2)]) rfl rfl rfl jko_1 (by omega) rfl (fun _ => rfl) (fun v1 ev1 => ?_)
  refine x_goto (tgt := 6) rfl rfl ?_
  try rw [show (l3.toInt + 1) = v1.toInt from by omega] at D
  exact jX.sub (jsb_c rfl (jsb_c rfl (jsb_c rfl (jsb_c rfl jsb_n)))) (k6 l1 l2 v1 h (by omega) (jr_of rfl (by omega)) (jr_of rfl (by omega)) (jr_of rfl (by omega)) J Sm D EV)
set_option maxRecDepth 100000 in
set_option maxHeartbeats 4000000 in
theorem ct_X7_haveKin_r78d_116 {Dy : jH → Prop} {h0 : jH} {Q : Option Value → jH → Prop} {dr : Int} {K6 : Int → Int → Int → jW → Int} {K51 : Int → Int → Int → Int → jW → Int} {R6 : Int} {R51 : Int} (hD : jDk Dy) (hQ : ∀ (v : Int32) hx9, 0 ≤ v.toInt ∧ v.toInt ≤ 1 → jJ jSgX Dy hx9 → jSm fp_X7_haveKin_r78d h0 hx9 → dr = v.toInt → vw hx9 = vw h0 → Q (some (.int v)) hx9) (k6 : ∀ (l1 : Int32) (l2 : Int32) (l3 : Int32) (h : jH), 600 - l3.toInt < R6 → 0 ≤ l1.toInt ∧ l1.toInt ≤ 599 → 0 ≤ l2.toInt ∧ l2.toInt ≤ 599 → 0 ≤ l3.toInt ∧ l3.toInt ≤ 600 → jJ jSgX Dy h → jSm fp_X7_haveKin_r78d h0 h → K6 l1.toInt l2.toInt l3.toInt (vw h) = dr → vw h = vw h0 → jX m_X7_haveKin 4 0 0 6 [(0, .ref 78), (1, .int l1), (2, .int l2), (3, .int l3)] [] h 0 0 Q) (k51 : ∀ (l1 : Int32) (l2 : Int32) (l3 : Int32) (l4 : Int32) (g0 : Int32) (h : jH), 600 - l4.toInt < R51 → 0 ≤ l1.toInt ∧ l1.toInt ≤ 599 → 0 ≤ l2.toInt ∧ l2.toInt ≤ 599 → 0 ≤ l3.toInt ∧ l3.toInt ≤ 599 → 0 ≤ l4.toInt ∧ l4.toInt ≤ 600 → 1 ≤ g0.toInt ∧ g0.toInt ≤ 200 → jiv h 33 3 = g0 → 600 - l3.toInt ≤ R6 → jJ jSgX Dy h → jSm fp_X7_haveKin_r78d h0 h → K51 l1.toInt l2.toInt l3.toInt l4.toInt (vw h) = dr → vw h = vw h0 → jX m_X7_haveKin 4 0 0 51 [(0, .ref 78), (1, .int l1), (2, .int l2), (3, .int l3), (4, .int l4)] [] h 0 0 Q) : ∀ (l1 : Int32) (l2 : Int32) (l3 : Int32) (l4 : Int32) (g0 : Int32) (h : jH), 0 ≤ l1.toInt ∧ l1.toInt ≤ 599 → 0 ≤ l2.toInt ∧ l2.toInt ≤ 599 → 0 ≤ l3.toInt ∧ l3.toInt ≤ 599 → 0 ≤ l4.toInt ∧ l4.toInt ≤ 599 → 1 ≤ g0.toInt ∧ g0.toInt ≤ 200 → jiv h 33 3 = g0 → 600 - l3.toInt ≤ R6 → 600 - l4.toInt ≤ R51 → jJ jSgX Dy h → jSm fp_X7_haveKin_r78d h0 h → d_X7_haveKin_r78d_116 K6 K51  l1.toInt l2.toInt l3.toInt l4.toInt (vw h) = dr → vw h = vw h0 → jX m_X7_haveKin 4 0 0 116 [(0, .ref 78), (1, .int l1), (2, .int l2), (3, .int l3), (4, .int l4)] [] h 0 0 Q := by
  intro l1 l2 l3 l4 g0 h y0 y1 y2 y3 y4 z0 m6 m51 J Sm D EV
  unfold d_X7_haveKin_r78d_116 at D
  try rw [vrf z0] at D
  refine z_iinc (x := l4) (lsx9 := fun v1 => [(4, .int v1), (0, .ref 78), (1, .int l1), (2, .int l2), (3, .int l3)]) rfl rfl rfl jko_1 (by omega) rfl (fun _ => rfl) (fun v1 ev1 => ?_)
  refine x_goto (tgt := 51) rfl rfl ?_
  try rw [show (l4.toInt + 1) = v1.toInt from by omega] at D
  exact jX.sub (jsb_c rfl (jsb_c rfl (jsb_c rfl (jsb_c rfl (jsb_c rfl jsb_n))))) (k51 l1 l2 l3 v1 g0 h (by omega) (jr_of rfl (by omega)) (jr_of rfl (by omega)) (jr_of rfl (by omega)) (jr_of rfl (by omega)) (jr_of rfl (by omega)) z0 (by omega) J Sm D EV)
set_option maxRecDepth 100000 in
set_option maxHeartbeats 4000000 in
theorem ct_X7_haveKin_r78d_51 {Dy : jH → Prop} {h0 : jH} {Q : Option Value → jH → Prop} {dr : Int} {K6 : Int → Int → Int → jW → Int} {R6 : Int} (hD : jDk Dy) (hQ : ∀ (v : Int32) hx9, 0 ≤ v.toInt ∧ v.toInt ≤ 1 → jJ jSgX Dy hx9 → jSm fp_X7_haveKin_r78d h0 hx9 → dr = v.toInt → vw hx9 = vw h0 → Q (some (.int v)) hx9) (k6 : ∀ (l1 : Int32) (l2 : Int32) (l3 : Int32) (h : jH), 600 - l3.toInt < R6 → 0 ≤ l1.toInt ∧ l1.toInt ≤ 599 → 0 ≤ l2.toInt ∧ l2.toInt ≤ 599 → 0 ≤ l3.toInt ∧ l3.toInt ≤ 600 → jJ jSgX Dy h → jSm fp_X7_haveKin_r78d h0 h → K6 l1.toInt l2.toInt l3.toInt (vw h) = dr → vw h = vw h0 → jX m_X7_haveKin 4 0 0 6 [(0, .ref 78), (1, .int l1), (2, .int l2), (3, .int l3)] [] h 0 0 Q) : ∀ r : Nat, ∀ (l1 : Int32) (l2 : Int32) (l3 : Int32) (l4 : Int32) (g0 : Int32) (h : jH), 600 - l4.toInt < (r : Int) → 0 ≤ l1.toInt ∧ l1.toInt ≤ 599 → 0 ≤ l2.toInt ∧ l2.toInt ≤ 599 → 0 ≤ l3.toInt ∧ l3.toInt ≤ 599 → 0 ≤ l4.toInt ∧ l4.toInt ≤ 600 → 1 ≤ g0.toInt ∧ g0.toInt ≤ 200 → jiv h 33 3 = g0 → 600 - l3.toInt ≤ R6 → jJ jSgX Dy h → jSm fp_X7_haveKin_r78d h0 h → d_X7_haveKin_r78d_51 K6 r l1.toInt l2.toInt l3.toInt l4.toInt (vw h) = dr → vw h = vw h0 → jX m_X7_haveKin 4 0 0 51 [(0, .ref 78), (1, .int l1), (2, .int l2), (3, .int l3), (4, .int l4)] [] h 0 0 Q := by
  intro r
  induction r with
  | zero =>
    intro l1 l2 l3 l4 g0 h hm y0 y1 y2 y3 y4 z0 m6 J Sm D EV
    exfalso
    omega
  | succ r ih =>
    intro l1 l2 l3 l4 g0 h hm y0 y1 y2 y3 y4 z0 m6 J Sm D EV
    rw [d_X7_haveKin_r78d_51.eq_2] at D
    try rw [vrf z0] at D
    refine x_iload (x := l4) rfl rfl ?_
    refine x_iloadn (x := l2) rfl rfl ?_
    refine x_iconst (v := 3) rfl ki_3 ?_
    refine z_idiv rfl rfl jk_3 (by omega) (by omega) (fun v1 ev1 => ?_)
    refine x_iconst (v := 3) rfl ki_3 ?_
    refine z_imul rfl rfl jk_3 (by omega) (fun v2 ev2 => ?_)
    refine x_iconst (v := 3) rfl ki_3 ?_
    refine z_iadd rfl rfl jk_3 (by omega) (fun v3 ev3 => ?_)
    refine x_icge (tgt := 122) rfl rfl (ti_ge rfl rfl ⟨fun c4 => ?_, fun c4 => ?_⟩)
    ·
      rw [if_pos (by omega)] at D
      exact jX.sub (jsb_c rfl (jsb_c rfl (jsb_c rfl (jsb_c rfl jsb_n)))) (ct_X7_haveKin_r78d_122 hD hQ k6 l1 l2 l3 h (jr_of rfl (by omega)) (jr_of rfl (by omega)) (jr_of rfl (by omega)) (by omega) J Sm D EV)
    ·
      rw [if_neg (by omega)] at D
      refine x_iload (x := l4) rfl rfl ?_
      refine x_iloadn (x := l2) rfl rfl ?_
      refine x_iceq (tgt := 116) rfl rfl (ti_eq rfl rfl ⟨fun c5 => ?_, fun c5 => ?_⟩)
      ·
        rw [if_pos (by omega)] at D
        exact jX.sub (jsb_c rfl (jsb_c rfl (jsb_c rfl (jsb_c rfl (jsb_c rfl jsb_n))))) (ct_X7_haveKin_r78d_116 hD hQ k6 ih l1 l2 l3 l4 g0 h (jr_of rfl (by omega)) (jr_of rfl (by omega)) (jr_of rfl (by omega)) (jr_of rfl (by omega)) (jr_of rfl (by omega)) z0 (by omega) (by omega) J Sm D EV)
      ·
        rw [if_neg (by omega)] at D
        refine x_aloadn (x := 78) rfl rfl ?_
        refine x_iload (x := l4) rfl rfl ?_
        refine x_inv (N := m_X7_isMention) (As := [.int l4]) (b := 78) (st := []) (dx9 := 3) (mc := 0) (ms := 0) (host := "") 7 rfl t_X7_isMention ⟨Or.inl q_7_134, i_X7_isMention.1, i_X7_isMention.2⟩ ⟨by decide, rfl⟩ (congrArg Prod.fst (J.1.1 78 (7, 16) rfl)) rfl (by decide) rfl rfl ⟨by decide, by decide⟩ (jC.of rfl k_X7_isMention rfl ?_)
        show jX m_X7_isMention 3 0 0 0 [(0, .ref 78), (1, .int l4)] [] _ 0 0 _
        refine x_iloadn (x := l4) rfl rfl ?_
        refine x_iflt (tgt := 41) rfl rfl (ti_lt rfl jk_0 (br_f (by omega) ?_))
        refine x_iloadn (x := l4) rfl rfl ?_
        refine x_sipush (v := 600) rfl ks_600 ?_
        refine x_icge (tgt := 41) rfl rfl (ti_ge rfl jk_600 (br_f (by omega) ?_))
        refine x_iloadn (x := l4) rfl rfl ?_
        refine x_iconst (v := 3) rfl ki_3 ?_
        refine z_idiv rfl rfl jk_3 (by omega) (by omega) (fun v6 ev6 => ?_)
        refine x_aloadn (x := 78) rfl rfl ?_
        refine z_getR (N := 16) (b := 32) 7 0 rfl f_7_55 rfl J rfl 9984 ⟨rfl, rfl⟩ rfl ?_
        refine z_getR (N := 20) (b := 33) 1 0 rfl f_7_63 rfl J rfl 4096 ⟨rfl, rfl⟩ rfl ?_
        refine z_getM (N := 4) (v := g0) 8 3 rfl f_7_85 rfl J rfl z0 ?_
        refine x_icge (tgt := 41) rfl rfl (ti_ge rfl rfl ⟨fun c7 => ?_, fun c7 => ?_⟩)
        ·
          rw [if_pos (by omega)] at D
          refine x_iconst (v := 0) rfl ki_0 ?_
          refine x_zret rfl rfl (by decide) ?_
          show jX m_X7_haveKin 4 0 0 75 [(0, .ref 78), (1, .int l1), (2, .int l2), (3, .int l3), (4, .int l4)] [.int 0] _ 0 0 _
          refine x_ifeq (tgt := 116) rfl rfl (ti_eq jk_0 jk_0 (br_t (by omega) ?_))
          exact jX.sub (jsb_c rfl (jsb_c rfl (jsb_c rfl (jsb_c rfl (jsb_c rfl jsb_n))))) (ct_X7_haveKin_r78d_116 hD hQ k6 ih l1 l2 l3 l4 g0 h (jr_of rfl (by omega)) (jr_of rfl (by omega)) (jr_of rfl (by omega)) (jr_of rfl (by omega)) (jr_of rfl (by omega)) z0 (by omega) (by omega) J Sm D EV)
        ·
          rw [if_neg (by omega)] at D
          refine x_aloadn (x := 78) rfl rfl ?_
          refine z_getR (N := 16) (b := 79) 7 7 rfl f_7_27 rfl J rfl 9991 ⟨rfl, rfl⟩ rfl ?_
          refine x_iloadn (x := l4) rfl rfl ?_
          refine z_iald (N := 600) rfl J rfl sg_79_0_600_1_0_1 rfl (by omega) (fun v8 qv8 ev8 => ?_)
          try rw [vrd qv8 (show l4.toInt = l4.toInt from by omega)] at D
          refine x_iconst (v := (-1)) rfl ki_m1 ?_
          refine x_iceq (tgt := 41) rfl rfl (ti_eq rfl jk_m1 ⟨fun c9 => ?_, fun c9 => ?_⟩)
          ·
            rw [if_pos (by omega)] at D
            refine x_iconst (v := 0) rfl ki_0 ?_
            refine x_zret rfl rfl (by decide) ?_
            show jX m_X7_haveKin 4 0 0 75 [(0, .ref 78), (1, .int l1), (2, .int l2), (3, .int l3), (4, .int l4)] [.int 0] _ 0 0 _
            refine x_ifeq (tgt := 116) rfl rfl (ti_eq jk_0 jk_0 (br_t (by omega) ?_))
            exact jX.sub (jsb_c rfl (jsb_c rfl (jsb_c rfl (jsb_c rfl (jsb_c rfl jsb_n))))) (ct_X7_haveKin_r78d_116 hD hQ k6 ih l1 l2 l3 l4 g0 h (jr_of rfl (by omega)) (jr_of rfl (by omega)) (jr_of rfl (by omega)) (jr_of rfl (by omega)) (jr_of rfl (by omega)) z0 (by omega) (by omega) J Sm D EV)
          ·
            rw [if_neg (by omega)] at D
            refine x_iconst (v := 1) rfl ki_1 ?_
            refine x_goto (tgt := 42) rfl rfl ?_
            refine x_zret rfl rfl (by decide) ?_
            show jX m_X7_haveKin 4 0 0 75 [(0, .ref 78), (1, .int l1), (2, .int l2), (3, .int l3), (4, .int l4)] [.int 1] _ 0 0 _
            refine x_ifeq (tgt := 116) rfl rfl (ti_eq jk_1 jk_0 (br_f (by omega) ?_))
            refine x_aloadn (x := 78) rfl rfl ?_
            refine z_getR (N := 16) (b := 70) 7 1 rfl f_7_59 rfl J rfl 9985 ⟨rfl, rfl⟩ rfl ?_
            refine x_iload (x := l4) rfl rfl ?_
            refine x_inv (N := m_X5_isNamedInFull) (As := [.int l4]) (b := 70) (st := []) (dx9 := 3) (mc := 0) (ms := 0) (host := "") 5 rfl t_X5_isNamedInFull ⟨Or.inl q_7_137, i_X5_isNamedInFull.1, i_X5_isNamedInFull.2⟩ ⟨by decide, rfl⟩ (congrArg Prod.fst (J.1.1 70 (5, 9) rfl)) rfl (by decide) rfl rfl ⟨by decide, by decide⟩ (jC.of rfl k_X5_isNamedInFull rfl ?_)
            show jX m_X5_isNamedInFull 3 0 0 0 [(0, .ref 70), (1, .int l4)] [] _ 0 0 _
            refine x_aloadn (x := 70) rfl rfl ?_
            refine x_iloadn (x := l4) rfl rfl ?_
            refine x_iconst (v := 0) rfl ki_0 ?_
            refine x_inv (N := m_X5_lengthOf) (As := [.int l4, .int 0]) (b := 70) (st := []) (dx9 := 2) (mc := 0) (ms := 0) (host := "") 5 rfl t_X5_lengthOf ⟨Or.inl q_5_133, i_X5_lengthOf.1, i_X5_lengthOf.2⟩ ⟨by decide, rfl⟩ (congrArg Prod.fst (J.1.1 70 (5, 9) rfl)) rfl (by decide) rfl rfl ⟨by decide, by decide⟩ (jC.of rfl k_X5_lengthOf rfl ?_)
            show jX m_X5_lengthOf 2 0 0 0 [(0, .ref 70), (1, .int l4), (2, .int 0)] [] _ 0 0 _
            refine x_iloadn (x := l4) rfl rfl ?_
            refine x_iconst (v := 2) rfl ki_2 ?_
            refine z_imul rfl rfl jk_2 (by omega) (fun v10 ev10 => ?_)
            refine x_iloadn (x := 0) rfl rfl ?_
            refine z_iadd rfl rfl jk_0 (by omega) (fun v11 ev11 => ?_)
            refine x_istoren (lsx9 := [(3, .int v11), (0, .ref 70), (1, .int l4), (2, .int 0)]) rfl rfl rfl ?_
            refine x_iloadn (x := v11) rfl rfl ?_
            refine x_iflt (tgt := 26) rfl rfl (ti_lt rfl jk_0 (br_f (by omega) ?_))
            refine x_iloadn (x := v11) rfl rfl ?_
            refine x_sipush (v := 1200) rfl ks_1200 ?_
            refine x_icge (tgt := 26) rfl rfl (ti_ge rfl jk_1200 (br_f (by omega) ?_))
            refine x_aloadn (x := 70) rfl rfl ?_
            refine z_getR (N := 9) (b := 76) 5 7 rfl f_5_28 rfl J rfl 8967 ⟨rfl, rfl⟩ rfl ?_
            refine x_iloadn (x := v11) rfl rfl ?_
            refine z_iald (N := 1200) rfl J rfl sg_76_0_1200_1_0_1 rfl (by omega) (fun v12 qv12 ev12 => ?_)
            try rw [vrd qv12 (show ((l4.toInt * 2) + 0) = v11.toInt from by omega)] at D
            refine x_goto (tgt := 27) rfl rfl ?_
            refine x_iret rfl rfl ?_
            show jX m_X5_isNamedInFull 3 0 0 6 [(0, .ref 70), (1, .int l4)] [.int v12] _ 0 0 _
            refine x_iflt (tgt := 22) rfl rfl (ti_lt rfl jk_0 ⟨fun c13 => ?_, fun c13 => ?_⟩)
            ·
              rw [if_pos (by omega)] at D
              refine x_iconst (v := 0) rfl ki_0 ?_
              refine x_zret rfl rfl (by decide) ?_
              show jX m_X7_haveKin 4 0 0 87 [(0, .ref 78), (1, .int l1), (2, .int l2), (3, .int l3), (4, .int l4)] [.int 0] _ 0 0 _
              refine x_ifeq (tgt := 116) rfl rfl (ti_eq jk_0 jk_0 (br_t (by omega) ?_))
              exact jX.sub (jsb_c rfl (jsb_c rfl (jsb_c rfl (jsb_c rfl (jsb_c rfl jsb_n))))) (ct_X7_haveKin_r78d_116 hD hQ k6 ih l1 l2 l3 l4 g0 h (jr_of rfl (by omega)) (jr_of rfl (by omega)) (jr_of rfl (by omega)) (jr_of rfl (by omega)) (jr_of rfl (by omega)) z0 (by omega) (by omega) J Sm D EV)
            ·
              rw [if_neg (by omega)] at D
              refine x_aloadn (x := 70) rfl rfl ?_
              refine x_iloadn (x := l4) rfl rfl ?_
              refine x_iconst (v := 1) rfl ki_1 ?_
              refine x_inv (N := m_X5_lengthOf) (As := [.int l4, .int 1]) (b := 70) (st := []) (dx9 := 2) (mc := 0) (ms := 0) (host := "") 5 rfl t_X5_lengthOf ⟨Or.inl q_5_133, i_X5_lengthOf.1, i_X5_lengthOf.2⟩ ⟨by decide, rfl⟩ (congrArg Prod.fst (J.1.1 70 (5, 9) rfl)) rfl (by decide) rfl rfl ⟨by decide, by decide⟩ (jC.of rfl k_X5_lengthOf rfl ?_)
              show jX m_X5_lengthOf 2 0 0 0 [(0, .ref 70), (1, .int l4), (2, .int 1)] [] _ 0 0 _
              refine x_iloadn (x := l4) rfl rfl ?_
              refine x_iconst (v := 2) rfl ki_2 ?_
              refine z_imul rfl rfl jk_2 (by omega) (fun v14 ev14 => ?_)
              refine x_iloadn (x := 1) rfl rfl ?_
              refine z_iadd rfl rfl jk_1 (by omega) (fun v15 ev15 => ?_)
              refine x_istoren (lsx9 := [(3, .int v15), (0, .ref 70), (1, .int l4), (2, .int 1)]) rfl rfl rfl ?_
              refine x_iloadn (x := v15) rfl rfl ?_
              refine x_iflt (tgt := 26) rfl rfl (ti_lt rfl jk_0 (br_f (by omega) ?_))
              refine x_iloadn (x := v15) rfl rfl ?_
              refine x_sipush (v := 1200) rfl ks_1200 ?_
              refine x_icge (tgt := 26) rfl rfl (ti_ge rfl jk_1200 (br_f (by omega) ?_))
              refine x_aloadn (x := 70) rfl rfl ?_
              refine z_getR (N := 9) (b := 76) 5 7 rfl f_5_28 rfl J rfl 8967 ⟨rfl, rfl⟩ rfl ?_
              refine x_iloadn (x := v15) rfl rfl ?_
              refine z_iald (N := 1200) rfl J rfl sg_76_0_1200_1_0_1 rfl (by omega) (fun v16 qv16 ev16 => ?_)
              try rw [vrd qv16 (show ((l4.toInt * 2) + 1) = v15.toInt from by omega)] at D
              refine x_goto (tgt := 27) rfl rfl ?_
              refine x_iret rfl rfl ?_
              show jX m_X5_isNamedInFull 3 0 0 15 [(0, .ref 70), (1, .int l4)] [.int v16] _ 0 0 _
              refine x_iflt (tgt := 22) rfl rfl (ti_lt rfl jk_0 ⟨fun c17 => ?_, fun c17 => ?_⟩)
              ·
                rw [if_pos (by omega)] at D
                refine x_iconst (v := 0) rfl ki_0 ?_
                refine x_zret rfl rfl (by decide) ?_
                show jX m_X7_haveKin 4 0 0 87 [(0, .ref 78), (1, .int l1), (2, .int l2), (3, .int l3), (4, .int l4)] [.int 0] _ 0 0 _
                refine x_ifeq (tgt := 116) rfl rfl (ti_eq jk_0 jk_0 (br_t (by omega) ?_))
                exact jX.sub (jsb_c rfl (jsb_c rfl (jsb_c rfl (jsb_c rfl (jsb_c rfl jsb_n))))) (ct_X7_haveKin_r78d_116 hD hQ k6 ih l1 l2 l3 l4 g0 h (jr_of rfl (by omega)) (jr_of rfl (by omega)) (jr_of rfl (by omega)) (jr_of rfl (by omega)) (jr_of rfl (by omega)) z0 (by omega) (by omega) J Sm D EV)
              ·
                rw [if_neg (by omega)] at D
                refine x_iconst (v := 1) rfl ki_1 ?_
                refine x_goto (tgt := 23) rfl rfl ?_
                refine x_zret rfl rfl (by decide) ?_
                show jX m_X7_haveKin 4 0 0 87 [(0, .ref 78), (1, .int l1), (2, .int l2), (3, .int l3), (4, .int l4)] [.int 1] _ 0 0 _
                refine x_ifeq (tgt := 116) rfl rfl (ti_eq jk_1 jk_0 (br_f (by omega) ?_))
                refine x_aloadn (x := 78) rfl rfl ?_
                refine z_getR (N := 16) (b := 70) 7 1 rfl f_7_59 rfl J rfl 9985 ⟨rfl, rfl⟩ rfl ?_
                refine x_iloadn (x := l3) rfl rfl ?_
                refine x_iload (x := l4) rfl rfl ?_
                refine x_iconst (v := 1) rfl ki_1 ?_
                refine x_inv (N := m_X5_differ) (As := [.int l3, .int l4, .int 1]) (b := 70) (st := []) (dx9 := 1) (mc := 0) (ms := 0) (host := "") 5 rfl t_X5_differ ⟨Or.inl q_7_92, i_X5_differ.1, i_X5_differ.2⟩ ⟨by decide, rfl⟩ (congrArg Prod.fst (J.1.1 70 (5, 9) rfl)) rfl (by decide) rfl rfl ⟨by decide, by decide⟩ (sf_X5_differ_r70d (jr_of rfl (by omega)) (jr_of rfl (by omega)) (jr_of jk_1 (by omega)) hD J rfl  (fun v21 h ev21 J S18 X19 X20 => ?_))
                have Sm := jSm_tr rfl Sm S18
                try rw [jk_1] at X19
                try rw [X19] at D
                try rw [← X20] at D
                have EV := X20.trans EV
                show jX m_X7_haveKin 4 0 0 101 [(0, .ref 78), (1, .int l1), (2, .int l2), (3, .int l3), (4, .int l4)] [.int v21] _ 0 0 _
                refine x_ifne (tgt := 116) rfl rfl (ti_ne rfl jk_0 ⟨fun c22 => ?_, fun c22 => ?_⟩)
                ·
                  rw [if_neg (by omega)] at D
                  exact jX.sub (jsb_c rfl (jsb_c rfl (jsb_c rfl (jsb_c rfl (jsb_c rfl jsb_n))))) (ct_X7_haveKin_r78d_116 hD hQ k6 ih l1 l2 l3 l4 g0 h (jr_of rfl (by omega)) (jr_of rfl (by omega)) (jr_of rfl (by omega)) (jr_of rfl (by omega)) (jr_of rfl (by omega)) (jmc S18 rfl z0) (by omega) (by omega) J Sm D EV)
                ·
                  rw [if_pos (by omega)] at D
                  refine x_aloadn (x := 78) rfl rfl ?_
                  refine x_iloadn (x := l3) rfl rfl ?_
                  refine x_iload (x := l4) rfl rfl ?_
                  refine x_inv (N := m_X7_reasonFor) (As := [.int l3, .int l4]) (b := 78) (st := []) (dx9 := 3) (mc := 0) (ms := 0) (host := "") 7 rfl t_X7_reasonFor ⟨Or.inl q_7_125, i_X7_reasonFor.1, i_X7_reasonFor.2⟩ ⟨by decide, rfl⟩ (congrArg Prod.fst (J.1.1 78 (7, 16) rfl)) rfl (by decide) rfl rfl ⟨by decide, by decide⟩ (sf_X7_reasonFor_r78d (jr_of rfl (by omega)) (jr_of rfl (by omega)) hD J rfl  (fun v26 h ev26 J S23 X24 X25 => ?_))
                  have Sm := jSm_tr rfl Sm S23
                  try rw [X24] at D
                  try rw [← X25] at D
                  have EV := X25.trans EV
                  show jX m_X7_haveKin 4 0 0 111 [(0, .ref 78), (1, .int l1), (2, .int l2), (3, .int l3), (4, .int l4)] [.int v26] _ 0 0 _
                  refine x_ifne (tgt := 116) rfl rfl (ti_ne rfl jk_0 ⟨fun c27 => ?_, fun c27 => ?_⟩)
                  ·
                    rw [if_neg (by omega)] at D
                    exact jX.sub (jsb_c rfl (jsb_c rfl (jsb_c rfl (jsb_c rfl (jsb_c rfl jsb_n))))) (ct_X7_haveKin_r78d_116 hD hQ k6 ih l1 l2 l3 l4 g0 h (jr_of rfl (by omega)) (jr_of rfl (by omega)) (jr_of rfl (by omega)) (jr_of rfl (by omega)) (jr_of rfl (by omega)) (jmc S23 rfl (jmc S18 rfl z0)) (by omega) (by omega) J Sm D EV)
                  ·
                    rw [if_pos (by omega)] at D
                    refine x_iconst (v := 1) rfl ki_1 ?_
                    refine x_zret rfl rfl (by decide) ?_
                    exact hQ _ _ (jr_of jk_1 (by omega)) J Sm (D.symm.trans (show 1 = (1 : Int32).toInt from by have := jk_1; omega)) EV
set_option maxRecDepth 100000 in
set_option maxHeartbeats 4000000 in
theorem ct_X7_haveKin_r78d_6 {Dy : jH → Prop} {h0 : jH} {Q : Option Value → jH → Prop} {dr : Int} (hD : jDk Dy) (hQ : ∀ (v : Int32) hx9, 0 ≤ v.toInt ∧ v.toInt ≤ 1 → jJ jSgX Dy hx9 → jSm fp_X7_haveKin_r78d h0 hx9 → dr = v.toInt → vw hx9 = vw h0 → Q (some (.int v)) hx9) : ∀ r : Nat, ∀ (l1 : Int32) (l2 : Int32) (l3 : Int32) (h : jH), 600 - l3.toInt < (r : Int) → 0 ≤ l1.toInt ∧ l1.toInt ≤ 599 → 0 ≤ l2.toInt ∧ l2.toInt ≤ 599 → 0 ≤ l3.toInt ∧ l3.toInt ≤ 600 → jJ jSgX Dy h → jSm fp_X7_haveKin_r78d h0 h → d_X7_haveKin_r78d_6 r l1.toInt l2.toInt l3.toInt (vw h) = dr → vw h = vw h0 → jX m_X7_haveKin 4 0 0 6 [(0, .ref 78), (1, .int l1), (2, .int l2), (3, .int l3)] [] h 0 0 Q := by
  intro r
  induction r with
  | zero =>
    intro l1 l2 l3 h hm y0 y1 y2   J Sm D EV
    exfalso
    omega
  | succ r ih =>
    intro l1 l2 l3 h hm y0 y1 y2   J Sm D EV
    rw [d_X7_haveKin_r78d_6.eq_2] at D
    refine x_iloadn (x := l3) rfl rfl ?_
    refine x_iloadn (x := l1) rfl rfl ?_
    refine x_iconst (v := 3) rfl ki_3 ?_
    refine z_idiv rfl rfl jk_3 (by omega) (by omega) (fun v1 ev1 => ?_)
    refine x_iconst (v := 3) rfl ki_3 ?_
    refine z_imul rfl rfl jk_3 (by omega) (fun v2 ev2 => ?_)
    refine x_iconst (v := 3) rfl ki_3 ?_
    refine z_iadd rfl rfl jk_3 (by omega) (fun v3 ev3 => ?_)
    refine x_icge (tgt := 128) rfl rfl (ti_ge rfl rfl ⟨fun c4 => ?_, fun c4 => ?_⟩)
    ·
      rw [if_pos (by omega)] at D
      refine x_iconst (v := 0) rfl ki_0 ?_
      refine x_zret rfl rfl (by decide) ?_
      exact hQ _ _ (jr_of jk_0 (by omega)) J Sm (D.symm.trans (show 0 = (0 : Int32).toInt from by have := jk_0; omega)) EV
    ·
      rw [if_neg (by omega)] at D
      refine x_iloadn (x := l3) rfl rfl ?_
      refine x_iloadn (x := l1) rfl rfl ?_
      refine x_iceq (tgt := 122) rfl rfl (ti_eq rfl rfl ⟨fun c5 => ?_, fun c5 => ?_⟩)
      ·
        rw [if_pos (by omega)] at D
        exact jX.sub (jsb_c rfl (jsb_c rfl (jsb_c rfl (jsb_c rfl jsb_n)))) (ct_X7_haveKin_r78d_122 hD hQ ih l1 l2 l3 h (jr_of rfl (by omega)) (jr_of rfl (by omega)) (jr_of rfl (by omega)) (by omega) J Sm D EV)
      ·
        rw [if_neg (by omega)] at D
        refine x_aloadn (x := 78) rfl rfl ?_
        refine x_iloadn (x := l3) rfl rfl ?_
        refine x_inv (N := m_X7_isMention) (As := [.int l3]) (b := 78) (st := []) (dx9 := 3) (mc := 0) (ms := 0) (host := "") 7 rfl t_X7_isMention ⟨Or.inl q_7_134, i_X7_isMention.1, i_X7_isMention.2⟩ ⟨by decide, rfl⟩ (congrArg Prod.fst (J.1.1 78 (7, 16) rfl)) rfl (by decide) rfl rfl ⟨by decide, by decide⟩ (jC.of rfl k_X7_isMention rfl ?_)
        show jX m_X7_isMention 3 0 0 0 [(0, .ref 78), (1, .int l3)] [] _ 0 0 _
        refine x_iloadn (x := l3) rfl rfl ?_
        refine x_iflt (tgt := 41) rfl rfl (ti_lt rfl jk_0 (br_f (by omega) ?_))
        refine x_iloadn (x := l3) rfl rfl ?_
        refine x_sipush (v := 600) rfl ks_600 ?_
        refine x_icge (tgt := 41) rfl rfl (ti_ge rfl jk_600 (br_f (by omega) ?_))
        refine x_iloadn (x := l3) rfl rfl ?_
        refine x_iconst (v := 3) rfl ki_3 ?_
        refine z_idiv rfl rfl jk_3 (by omega) (by omega) (fun v6 ev6 => ?_)
        refine x_aloadn (x := 78) rfl rfl ?_
        refine z_getR (N := 16) (b := 32) 7 0 rfl f_7_55 rfl J rfl 9984 ⟨rfl, rfl⟩ rfl ?_
        refine z_getR (N := 20) (b := 33) 1 0 rfl f_7_63 rfl J rfl 4096 ⟨rfl, rfl⟩ rfl ?_
        refine z_getI (N := 4) 8 3 rfl f_7_85 rfl J rfl sg_33_3_4_1_0_1 (fun v7 qv7 ev7 => ?_)
        try rw [vrf qv7] at D
        refine x_icge (tgt := 41) rfl rfl (ti_ge rfl rfl ⟨fun c8 => ?_, fun c8 => ?_⟩)
        ·
          rw [if_pos (by omega)] at D
          refine x_iconst (v := 0) rfl ki_0 ?_
          refine x_zret rfl rfl (by decide) ?_
          show jX m_X7_haveKin 4 0 0 27 [(0, .ref 78), (1, .int l1), (2, .int l2), (3, .int l3)] [.int 0] _ 0 0 _
          refine x_ifeq (tgt := 122) rfl rfl (ti_eq jk_0 jk_0 (br_t (by omega) ?_))
          exact jX.sub (jsb_c rfl (jsb_c rfl (jsb_c rfl (jsb_c rfl jsb_n)))) (ct_X7_haveKin_r78d_122 hD hQ ih l1 l2 l3 h (jr_of rfl (by omega)) (jr_of rfl (by omega)) (jr_of rfl (by omega)) (by omega) J Sm D EV)
        ·
          rw [if_neg (by omega)] at D
          refine x_aloadn (x := 78) rfl rfl ?_
          refine z_getR (N := 16) (b := 79) 7 7 rfl f_7_27 rfl J rfl 9991 ⟨rfl, rfl⟩ rfl ?_
          refine x_iloadn (x := l3) rfl rfl ?_
          refine z_iald (N := 600) rfl J rfl sg_79_0_600_1_0_1 rfl (by omega) (fun v9 qv9 ev9 => ?_)
          try rw [vrd qv9 (show l3.toInt = l3.toInt from by omega)] at D
          refine x_iconst (v := (-1)) rfl ki_m1 ?_
          refine x_iceq (tgt := 41) rfl rfl (ti_eq rfl jk_m1 ⟨fun c10 => ?_, fun c10 => ?_⟩)
          ·
            rw [if_pos (by omega)] at D
            refine x_iconst (v := 0) rfl ki_0 ?_
            refine x_zret rfl rfl (by decide) ?_
            show jX m_X7_haveKin 4 0 0 27 [(0, .ref 78), (1, .int l1), (2, .int l2), (3, .int l3)] [.int 0] _ 0 0 _
            refine x_ifeq (tgt := 122) rfl rfl (ti_eq jk_0 jk_0 (br_t (by omega) ?_))
            exact jX.sub (jsb_c rfl (jsb_c rfl (jsb_c rfl (jsb_c rfl jsb_n)))) (ct_X7_haveKin_r78d_122 hD hQ ih l1 l2 l3 h (jr_of rfl (by omega)) (jr_of rfl (by omega)) (jr_of rfl (by omega)) (by omega) J Sm D EV)
          ·
            rw [if_neg (by omega)] at D
            refine x_iconst (v := 1) rfl ki_1 ?_
            refine x_goto (tgt := 42) rfl rfl ?_
            refine x_zret rfl rfl (by decide) ?_
            show jX m_X7_haveKin 4 0 0 27 [(0, .ref 78), (1, .int l1), (2, .int l2), (3, .int l3)] [.int 1] _ 0 0 _
            refine x_ifeq (tgt := 122) rfl rfl (ti_eq jk_1 jk_0 (br_f (by omega) ?_))
            refine x_aloadn (x := 78) rfl rfl ?_
            refine z_getR (N := 16) (b := 70) 7 1 rfl f_7_59 rfl J rfl 9985 ⟨rfl, rfl⟩ rfl ?_
            refine x_iloadn (x := l3) rfl rfl ?_
            refine x_inv (N := m_X5_isNamedInFull) (As := [.int l3]) (b := 70) (st := []) (dx9 := 3) (mc := 0) (ms := 0) (host := "") 5 rfl t_X5_isNamedInFull ⟨Or.inl q_7_137, i_X5_isNamedInFull.1, i_X5_isNamedInFull.2⟩ ⟨by decide, rfl⟩ (congrArg Prod.fst (J.1.1 70 (5, 9) rfl)) rfl (by decide) rfl rfl ⟨by decide, by decide⟩ (jC.of rfl k_X5_isNamedInFull rfl ?_)
            show jX m_X5_isNamedInFull 3 0 0 0 [(0, .ref 70), (1, .int l3)] [] _ 0 0 _
            refine x_aloadn (x := 70) rfl rfl ?_
            refine x_iloadn (x := l3) rfl rfl ?_
            refine x_iconst (v := 0) rfl ki_0 ?_
            refine x_inv (N := m_X5_lengthOf) (As := [.int l3, .int 0]) (b := 70) (st := []) (dx9 := 2) (mc := 0) (ms := 0) (host := "") 5 rfl t_X5_lengthOf ⟨Or.inl q_5_133, i_X5_lengthOf.1, i_X5_lengthOf.2⟩ ⟨by decide, rfl⟩ (congrArg Prod.fst (J.1.1 70 (5, 9) rfl)) rfl (by decide) rfl rfl ⟨by decide, by decide⟩ (jC.of rfl k_X5_lengthOf rfl ?_)
            show jX m_X5_lengthOf 2 0 0 0 [(0, .ref 70), (1, .int l3), (2, .int 0)] [] _ 0 0 _
            refine x_iloadn (x := l3) rfl rfl ?_
            refine x_iconst (v := 2) rfl ki_2 ?_
            refine z_imul rfl rfl jk_2 (by omega) (fun v11 ev11 => ?_)
            refine x_iloadn (x := 0) rfl rfl ?_
            refine z_iadd rfl rfl jk_0 (by omega) (fun v12 ev12 => ?_)
            refine x_istoren (lsx9 := [(3, .int v12), (0, .ref 70), (1, .int l3), (2, .int 0)]) rfl rfl rfl ?_
            refine x_iloadn (x := v12) rfl rfl ?_
            refine x_iflt (tgt := 26) rfl rfl (ti_lt rfl jk_0 (br_f (by omega) ?_))
            refine x_iloadn (x := v12) rfl rfl ?_
            refine x_sipush (v := 1200) rfl ks_1200 ?_
            refine x_icge (tgt := 26) rfl rfl (ti_ge rfl jk_1200 (br_f (by omega) ?_))
            refine x_aloadn (x := 70) rfl rfl ?_
            refine z_getR (N := 9) (b := 76) 5 7 rfl f_5_28 rfl J rfl 8967 ⟨rfl, rfl⟩ rfl ?_
            refine x_iloadn (x := v12) rfl rfl ?_
            refine z_iald (N := 1200) rfl J rfl sg_76_0_1200_1_0_1 rfl (by omega) (fun v13 qv13 ev13 => ?_)
            try rw [vrd qv13 (show ((l3.toInt * 2) + 0) = v12.toInt from by omega)] at D
            refine x_goto (tgt := 27) rfl rfl ?_
            refine x_iret rfl rfl ?_
            show jX m_X5_isNamedInFull 3 0 0 6 [(0, .ref 70), (1, .int l3)] [.int v13] _ 0 0 _
            refine x_iflt (tgt := 22) rfl rfl (ti_lt rfl jk_0 ⟨fun c14 => ?_, fun c14 => ?_⟩)
            ·
              rw [if_pos (by omega)] at D
              refine x_iconst (v := 0) rfl ki_0 ?_
              refine x_zret rfl rfl (by decide) ?_
              show jX m_X7_haveKin 4 0 0 38 [(0, .ref 78), (1, .int l1), (2, .int l2), (3, .int l3)] [.int 0] _ 0 0 _
              refine x_ifne (tgt := 44) rfl rfl (ti_ne jk_0 jk_0 (bn_f (by omega) ?_))
              refine x_goto (tgt := 122) rfl rfl ?_
              exact jX.sub (jsb_c rfl (jsb_c rfl (jsb_c rfl (jsb_c rfl jsb_n)))) (ct_X7_haveKin_r78d_122 hD hQ ih l1 l2 l3 h (jr_of rfl (by omega)) (jr_of rfl (by omega)) (jr_of rfl (by omega)) (by omega) J Sm D EV)
            ·
              rw [if_neg (by omega)] at D
              refine x_aloadn (x := 70) rfl rfl ?_
              refine x_iloadn (x := l3) rfl rfl ?_
              refine x_iconst (v := 1) rfl ki_1 ?_
              refine x_inv (N := m_X5_lengthOf) (As := [.int l3, .int 1]) (b := 70) (st := []) (dx9 := 2) (mc := 0) (ms := 0) (host := "") 5 rfl t_X5_lengthOf ⟨Or.inl q_5_133, i_X5_lengthOf.1, i_X5_lengthOf.2⟩ ⟨by decide, rfl⟩ (congrArg Prod.fst (J.1.1 70 (5, 9) rfl)) rfl (by decide) rfl rfl ⟨by decide, by decide⟩ (jC.of rfl k_X5_lengthOf rfl ?_)
              show jX m_X5_lengthOf 2 0 0 0 [(0, .ref 70), (1, .int l3), (2, .int 1)] [] _ 0 0 _
              refine x_iloadn (x := l3) rfl rfl ?_
              refine x_iconst (v := 2) rfl ki_2 ?_
              refine z_imul rfl rfl jk_2 (by omega) (fun v15 ev15 => ?_)
              refine x_iloadn (x := 1) rfl rfl ?_
              refine z_iadd rfl rfl jk_1 (by omega) (fun v16 ev16 => ?_)
              refine x_istoren (lsx9 := [(3, .int v16), (0, .ref 70), (1, .int l3), (2, .int 1)]) rfl rfl rfl ?_
              refine x_iloadn (x := v16) rfl rfl ?_
              refine x_iflt (tgt := 26) rfl rfl (ti_lt rfl jk_0 (br_f (by omega) ?_))
              refine x_iloadn (x := v16) rfl rfl ?_
              refine x_sipush (v := 1200) rfl ks_1200 ?_
              refine x_icge (tgt := 26) rfl rfl (ti_ge rfl jk_1200 (br_f (by omega) ?_))
              refine x_aloadn (x := 70) rfl rfl ?_
              refine z_getR (N := 9) (b := 76) 5 7 rfl f_5_28 rfl J rfl 8967 ⟨rfl, rfl⟩ rfl ?_
              refine x_iloadn (x := v16) rfl rfl ?_
              refine z_iald (N := 1200) rfl J rfl sg_76_0_1200_1_0_1 rfl (by omega) (fun v17 qv17 ev17 => ?_)
              try rw [vrd qv17 (show ((l3.toInt * 2) + 1) = v16.toInt from by omega)] at D
              refine x_goto (tgt := 27) rfl rfl ?_
              refine x_iret rfl rfl ?_
              show jX m_X5_isNamedInFull 3 0 0 15 [(0, .ref 70), (1, .int l3)] [.int v17] _ 0 0 _
              refine x_iflt (tgt := 22) rfl rfl (ti_lt rfl jk_0 ⟨fun c18 => ?_, fun c18 => ?_⟩)
              ·
                rw [if_pos (by omega)] at D
                refine x_iconst (v := 0) rfl ki_0 ?_
                refine x_zret rfl rfl (by decide) ?_
                show jX m_X7_haveKin 4 0 0 38 [(0, .ref 78), (1, .int l1), (2, .int l2), (3, .int l3)] [.int 0] _ 0 0 _
                refine x_ifne (tgt := 44) rfl rfl (ti_ne jk_0 jk_0 (bn_f (by omega) ?_))
                refine x_goto (tgt := 122) rfl rfl ?_
                exact jX.sub (jsb_c rfl (jsb_c rfl (jsb_c rfl (jsb_c rfl jsb_n)))) (ct_X7_haveKin_r78d_122 hD hQ ih l1 l2 l3 h (jr_of rfl (by omega)) (jr_of rfl (by omega)) (jr_of rfl (by omega)) (by omega) J Sm D EV)
              ·
                rw [if_neg (by omega)] at D
                refine x_iconst (v := 1) rfl ki_1 ?_
                refine x_goto (tgt := 23) rfl rfl ?_
                refine x_zret rfl rfl (by decide) ?_
                show jX m_X7_haveKin 4 0 0 38 [(0, .ref 78), (1, .int l1), (2, .int l2), (3, .int l3)] [.int 1] _ 0 0 _
                refine x_ifne (tgt := 44) rfl rfl (ti_ne jk_1 jk_0 (bn_t (by omega) ?_))
                refine x_iloadn (x := l2) rfl rfl ?_
                refine x_iconst (v := 3) rfl ki_3 ?_
                refine z_idiv rfl rfl jk_3 (by omega) (by omega) (fun v19 ev19 => ?_)
                refine x_iconst (v := 3) rfl ki_3 ?_
                refine z_imul rfl rfl jk_3 (by omega) (fun v20 ev20 => ?_)
                refine x_istore (lsx9 := [(4, .int v20), (0, .ref 78), (1, .int l1), (2, .int l2), (3, .int l3)]) rfl rfl rfl ?_
                try rw [show ((l2.toInt / 3) * 3) = v20.toInt from by omega] at D
                exact jX.sub (jsb_c rfl (jsb_c rfl (jsb_c rfl (jsb_c rfl (jsb_c rfl jsb_n))))) (ct_X7_haveKin_r78d_51 hD hQ ih 601 l1 l2 l3 v20 v7 h (by omega) (jr_of rfl (by omega)) (jr_of rfl (by omega)) (jr_of rfl (by omega)) (jr_of rfl (by omega)) (jr_of rfl (by omega)) qv7 (by omega) J Sm D EV)
set_option maxRecDepth 100000 in
set_option maxHeartbeats 4000000 in
theorem sf_X7_haveKin_r78d {Dy : jH → Prop} {h : jH} {Q : Option Value → jH → Prop} {dr : Int} {a1 : Int32} {a2 : Int32} (y1 : 0 ≤ a1.toInt ∧ a1.toInt ≤ 599) (y2 : 0 ≤ a2.toInt ∧ a2.toInt ≤ 599) (hD : jDk Dy) (J : jJ jSgX Dy h) (D : d_X7_haveKin_r78d a1.toInt a2.toInt (vw h) = dr) (hQ : ∀ (v : Int32) hx9, 0 ≤ v.toInt ∧ v.toInt ≤ 1 → jJ jSgX Dy hx9 → jSm fp_X7_haveKin_r78d h hx9 → dr = v.toInt → vw hx9 = vw h → Q (some (.int v)) hx9) : jC m_X7_haveKin 4 0 0 [.ref 78, .int a1, .int a2] h Q := by
  refine jC.of rfl k_X7_haveKin rfl ?_
  have Sm := jSm_rf fp_X7_haveKin_r78d h
  show jX m_X7_haveKin 4 0 0 0 [(0, .ref 78), (1, .int a1), (2, .int a2)] [] _ 0 0 _
  unfold d_X7_haveKin_r78d at D
  have EV : vw h = vw h := rfl
  refine x_iloadn (x := a1) rfl rfl ?_
  refine x_iconst (v := 3) rfl ki_3 ?_
  refine z_idiv rfl rfl jk_3 (by omega) (by omega) (fun v1 ev1 => ?_)
  refine x_iconst (v := 3) rfl ki_3 ?_
  refine z_imul rfl rfl jk_3 (by omega) (fun v2 ev2 => ?_)
  refine x_istoren (lsx9 := [(3, .int v2), (0, .ref 78), (1, .int a1), (2, .int a2)]) rfl rfl rfl ?_
  try rw [show ((a1.toInt / 3) * 3) = v2.toInt from by omega] at D
  exact jX.sub (jsb_c rfl (jsb_c rfl (jsb_c rfl (jsb_c rfl jsb_n)))) (ct_X7_haveKin_r78d_6 hD hQ  601 a1 a2 v2 h (by omega) (jr_of rfl (by omega)) (jr_of rfl (by omega)) (jr_of rfl (by omega)) J Sm D EV)
def fp_X7_worthOf_r78d : jFp := []
set_option maxRecDepth 100000 in
set_option maxHeartbeats 4000000 in
theorem ct_X7_worthOf_r78d_110 {Dy : jH → Prop} {h0 : jH} {Q : Option Value → jH → Prop} {dr : Int} (hD : jDk Dy) (hQ : ∀ (v : Int32) hx9, (-1) ≤ v.toInt ∧ v.toInt ≤ 400 → jJ jSgX Dy hx9 → jSm fp_X7_worthOf_r78d h0 hx9 → dr = v.toInt → vw hx9 = vw h0 → Q (some (.int v)) hx9) : ∀ (s0 : Int32) (h : jH), 0 ≤ s0.toInt ∧ s0.toInt ≤ 400 → jJ jSgX Dy h → jSm fp_X7_worthOf_r78d h0 h → d_X7_worthOf_r78d_110  s0.toInt (vw h) = dr → vw h = vw h0 → jX m_X7_worthOf 5 0 0 110 [] [.int s0] h 0 0 Q := by
  intro s0 h y0   J Sm D EV
  unfold d_X7_worthOf_r78d_110 at D
  refine x_iret rfl rfl ?_
  exact hQ _ _ (jr_of rfl (by omega)) J Sm (D.symm.trans (show s0.toInt = s0.toInt from by omega)) EV
set_option maxRecDepth 100000 in
set_option maxHeartbeats 4000000 in
theorem ct_X7_worthOf_r78d_91 {Dy : jH → Prop} {h0 : jH} {Q : Option Value → jH → Prop} {dr : Int} (hD : jDk Dy) (hQ : ∀ (v : Int32) hx9, (-1) ≤ v.toInt ∧ v.toInt ≤ 400 → jJ jSgX Dy hx9 → jSm fp_X7_worthOf_r78d h0 hx9 → dr = v.toInt → vw hx9 = vw h0 → Q (some (.int v)) hx9) : ∀ (l1 : Int32) (l2 : Int32) (l3 : Int32) (h : jH), 0 ≤ l1.toInt ∧ l1.toInt ≤ 599 → 0 ≤ l2.toInt ∧ l2.toInt ≤ 599 → 0 ≤ l3.toInt ∧ l3.toInt ≤ 300 → jJ jSgX Dy h → jSm fp_X7_worthOf_r78d h0 h → d_X7_worthOf_r78d_91  l1.toInt l2.toInt l3.toInt (vw h) = dr → vw h = vw h0 → jX m_X7_worthOf 5 0 0 91 [(0, .ref 78), (1, .int l1), (2, .int l2), (3, .int l3)] [] h 0 0 Q := by
  intro l1 l2 l3 h y0 y1 y2   J Sm D EV
  unfold d_X7_worthOf_r78d_91 at D
  refine x_aloadn (x := 78) rfl rfl ?_
  refine x_iloadn (x := l1) rfl rfl ?_
  refine x_iloadn (x := l2) rfl rfl ?_
  refine x_inv (N := m_X7_haveKin) (As := [.int l1, .int l2]) (b := 78) (st := []) (dx9 := 4) (mc := 0) (ms := 0) (host := "") 7 rfl t_X7_haveKin ⟨Or.inl q_7_131, i_X7_haveKin.1, i_X7_haveKin.2⟩ ⟨by decide, rfl⟩ (congrArg Prod.fst (J.1.1 78 (7, 16) rfl)) rfl (by decide) rfl rfl ⟨by decide, by decide⟩ (sf_X7_haveKin_r78d (jr_of rfl (by omega)) (jr_of rfl (by omega)) hD J rfl  (fun v4 h ev4 J S1 X2 X3 => ?_))
  have Sm := jSm_tr rfl Sm S1
  try rw [X2] at D
  try rw [← X3] at D
  have EV := X3.trans EV
  show jX m_X7_worthOf 5 0 0 97 [(0, .ref 78), (1, .int l1), (2, .int l2), (3, .int l3)] [.int v4] _ 0 0 _
  refine x_ifeq (tgt := 109) rfl rfl (ti_eq rfl jk_0 ⟨fun c5 => ?_, fun c5 => ?_⟩)
  ·
    rw [if_pos (by omega)] at D
    refine x_iloadn (x := l3) rfl rfl ?_
    exact jX.sub jsb_n (ct_X7_worthOf_r78d_110 hD hQ  l3 h (jr_of rfl (by omega)) J Sm D EV)
  ·
    rw [if_neg (by omega)] at D
    refine x_iloadn (x := l3) rfl rfl ?_
    refine x_aloadn (x := 78) rfl rfl ?_
    refine z_getI (N := 16) 7 5 rfl f_7_21 rfl J rfl sg_78_5_6_1_0_1 (fun v6 qv6 ev6 => ?_)
    try rw [vrf qv6] at D
    refine z_iadd rfl rfl rfl (by omega) (fun v7 ev7 => ?_)
    refine x_goto (tgt := 110) rfl rfl ?_
    try rw [show (l3.toInt + v6.toInt) = v7.toInt from by omega] at D
    exact jX.sub jsb_n (ct_X7_worthOf_r78d_110 hD hQ  v7 h (jr_of rfl (by omega)) J Sm D EV)
set_option maxRecDepth 100000 in
set_option maxHeartbeats 4000000 in
theorem ct_X7_worthOf_r78d_84 {Dy : jH → Prop} {h0 : jH} {Q : Option Value → jH → Prop} {dr : Int} (hD : jDk Dy) (hQ : ∀ (v : Int32) hx9, (-1) ≤ v.toInt ∧ v.toInt ≤ 400 → jJ jSgX Dy hx9 → jSm fp_X7_worthOf_r78d h0 hx9 → dr = v.toInt → vw hx9 = vw h0 → Q (some (.int v)) hx9) : ∀ (l1 : Int32) (l2 : Int32) (l3 : Int32) (h : jH), 0 ≤ l1.toInt ∧ l1.toInt ≤ 599 → 0 ≤ l2.toInt ∧ l2.toInt ≤ 599 → 0 ≤ l3.toInt ∧ l3.toInt ≤ 200 → jJ jSgX Dy h → jSm fp_X7_worthOf_r78d h0 h → d_X7_worthOf_r78d_84  l1.toInt l2.toInt l3.toInt (vw h) = dr → vw h = vw h0 → jX m_X7_worthOf 5 0 0 84 [(0, .ref 78), (1, .int l1), (2, .int l2), (3, .int l3)] [] h 0 0 Q := by
  intro l1 l2 l3 h y0 y1 y2   J Sm D EV
  unfold d_X7_worthOf_r78d_84 at D
  refine x_iloadn (x := l3) rfl rfl ?_
  refine x_aloadn (x := 78) rfl rfl ?_
  refine z_getI (N := 16) 7 4 rfl f_7_18 rfl J rfl sg_78_4_5_1_0_1 (fun v1 qv1 ev1 => ?_)
  try rw [vrf qv1] at D
  refine z_iadd rfl rfl rfl (by omega) (fun v2 ev2 => ?_)
  refine x_istoren (lsx9 := [(3, .int v2), (0, .ref 78), (1, .int l1), (2, .int l2)]) rfl rfl rfl ?_
  try rw [show (l3.toInt + v1.toInt) = v2.toInt from by omega] at D
  exact jX.sub (jsb_c rfl (jsb_c rfl (jsb_c rfl (jsb_c rfl jsb_n)))) (ct_X7_worthOf_r78d_91 hD hQ  l1 l2 v2 h (jr_of rfl (by omega)) (jr_of rfl (by omega)) (jr_of rfl (by omega)) J Sm D EV)
set_option maxRecDepth 100000 in
set_option maxHeartbeats 4000000 in
theorem ct_X7_worthOf_r78d_66 {Dy : jH → Prop} {h0 : jH} {Q : Option Value → jH → Prop} {dr : Int} (hD : jDk Dy) (hQ : ∀ (v : Int32) hx9, (-1) ≤ v.toInt ∧ v.toInt ≤ 400 → jJ jSgX Dy hx9 → jSm fp_X7_worthOf_r78d h0 hx9 → dr = v.toInt → vw hx9 = vw h0 → Q (some (.int v)) hx9) : ∀ (l1 : Int32) (l2 : Int32) (l3 : Int32) (h : jH), 0 ≤ l1.toInt ∧ l1.toInt ≤ 599 → 0 ≤ l2.toInt ∧ l2.toInt ≤ 599 → 0 ≤ l3.toInt ∧ l3.toInt ≤ 200 → jJ jSgX Dy h → jSm fp_X7_worthOf_r78d h0 h → d_X7_worthOf_r78d_66  l1.toInt l2.toInt l3.toInt (vw h) = dr → vw h = vw h0 → jX m_X7_worthOf 5 0 0 66 [(0, .ref 78), (1, .int l1), (2, .int l2), (3, .int l3)] [] h 0 0 Q := by
  intro l1 l2 l3 h y0 y1 y2   J Sm D EV
  unfold d_X7_worthOf_r78d_66 at D
  refine x_aloadn (x := 78) rfl rfl ?_
  refine x_iloadn (x := l1) rfl rfl ?_
  refine x_iloadn (x := l2) rfl rfl ?_
  refine x_inv (N := m_X7_isWithAge) (As := [.int l1, .int l2]) (b := 78) (st := []) (dx9 := 4) (mc := 0) (ms := 0) (host := "") 7 rfl t_X7_isWithAge ⟨Or.inl q_7_116, i_X7_isWithAge.1, i_X7_isWithAge.2⟩ ⟨by decide, rfl⟩ (congrArg Prod.fst (J.1.1 78 (7, 16) rfl)) rfl (by decide) rfl rfl ⟨by decide, by decide⟩ (jC.of rfl k_X7_isWithAge rfl ?_)
  show jX m_X7_isWithAge 4 0 0 0 [(0, .ref 78), (1, .int l1), (2, .int l2)] [] _ 0 0 _
  refine x_aloadn (x := 78) rfl rfl ?_
  refine z_getR (N := 16) (b := 79) 7 7 rfl f_7_27 rfl J rfl 9991 ⟨rfl, rfl⟩ rfl ?_
  refine x_iloadn (x := l1) rfl rfl ?_
  refine z_iald (N := 600) rfl J rfl sg_79_0_600_1_0_1 rfl (by omega) (fun v1 qv1 ev1 => ?_)
  try rw [vrd qv1 (show l1.toInt = l1.toInt from by omega)] at D
  refine x_ifne (tgt := 33) rfl rfl (ti_ne rfl jk_0 ⟨fun c2 => ?_, fun c2 => ?_⟩)
  ·
    rw [if_neg (by omega)] at D
    refine x_iconst (v := 0) rfl ki_0 ?_
    refine x_zret rfl rfl (by decide) ?_
    show jX m_X7_worthOf 5 0 0 72 [(0, .ref 78), (1, .int l1), (2, .int l2), (3, .int l3)] [.int 0] _ 0 0 _
    refine x_ifne (tgt := 84) rfl rfl (ti_ne jk_0 jk_0 (bn_f (by omega) ?_))
    refine x_aloadn (x := 78) rfl rfl ?_
    refine x_iloadn (x := l2) rfl rfl ?_
    refine x_iloadn (x := l1) rfl rfl ?_
    refine x_inv (N := m_X7_isWithAge) (As := [.int l2, .int l1]) (b := 78) (st := []) (dx9 := 4) (mc := 0) (ms := 0) (host := "") 7 rfl t_X7_isWithAge ⟨Or.inl q_7_116, i_X7_isWithAge.1, i_X7_isWithAge.2⟩ ⟨by decide, rfl⟩ (congrArg Prod.fst (J.1.1 78 (7, 16) rfl)) rfl (by decide) rfl rfl ⟨by decide, by decide⟩ (jC.of rfl k_X7_isWithAge rfl ?_)
    show jX m_X7_isWithAge 4 0 0 0 [(0, .ref 78), (1, .int l2), (2, .int l1)] [] _ 0 0 _
    refine x_aloadn (x := 78) rfl rfl ?_
    refine z_getR (N := 16) (b := 79) 7 7 rfl f_7_27 rfl J rfl 9991 ⟨rfl, rfl⟩ rfl ?_
    refine x_iloadn (x := l2) rfl rfl ?_
    refine z_iald (N := 600) rfl J rfl sg_79_0_600_1_0_1 rfl (by omega) (fun v3 qv3 ev3 => ?_)
    try rw [vrd qv3 (show l2.toInt = l2.toInt from by omega)] at D
    refine x_ifne (tgt := 33) rfl rfl (ti_ne rfl jk_0 ⟨fun c4 => ?_, fun c4 => ?_⟩)
    ·
      rw [if_neg (by omega)] at D
      refine x_iconst (v := 0) rfl ki_0 ?_
      refine x_zret rfl rfl (by decide) ?_
      show jX m_X7_worthOf 5 0 0 81 [(0, .ref 78), (1, .int l1), (2, .int l2), (3, .int l3)] [.int 0] _ 0 0 _
      refine x_ifeq (tgt := 91) rfl rfl (ti_eq jk_0 jk_0 (br_t (by omega) ?_))
      exact jX.sub (jsb_c rfl (jsb_c rfl (jsb_c rfl (jsb_c rfl jsb_n)))) (ct_X7_worthOf_r78d_91 hD hQ  l1 l2 l3 h (jr_of rfl (by omega)) (jr_of rfl (by omega)) (jr_of rfl (by omega)) J Sm D EV)
    ·
      rw [if_pos (by omega)] at D
      refine x_aloadn (x := 78) rfl rfl ?_
      refine z_getR (N := 16) (b := 79) 7 7 rfl f_7_27 rfl J rfl 9991 ⟨rfl, rfl⟩ rfl ?_
      refine x_iloadn (x := l1) rfl rfl ?_
      refine z_ialdM (N := 600) (v := v1) rfl J rfl rfl (by omega) qv1 ?_
      refine x_iconst (v := 5) rfl ki_5 ?_
      refine x_icne (tgt := 33) rfl rfl (ti_ne rfl jk_5 ⟨fun c5 => ?_, fun c5 => ?_⟩)
      ·
        rw [if_neg (by omega)] at D
        refine x_iconst (v := 0) rfl ki_0 ?_
        refine x_zret rfl rfl (by decide) ?_
        show jX m_X7_worthOf 5 0 0 81 [(0, .ref 78), (1, .int l1), (2, .int l2), (3, .int l3)] [.int 0] _ 0 0 _
        refine x_ifeq (tgt := 91) rfl rfl (ti_eq jk_0 jk_0 (br_t (by omega) ?_))
        exact jX.sub (jsb_c rfl (jsb_c rfl (jsb_c rfl (jsb_c rfl jsb_n)))) (ct_X7_worthOf_r78d_91 hD hQ  l1 l2 l3 h (jr_of rfl (by omega)) (jr_of rfl (by omega)) (jr_of rfl (by omega)) J Sm D EV)
      ·
        rw [if_pos (by omega)] at D
        refine x_aloadn (x := 78) rfl rfl ?_
        refine z_getR (N := 16) (b := 81) 7 9 rfl f_7_34 rfl J rfl 9993 ⟨rfl, rfl⟩ rfl ?_
        refine x_iloadn (x := l1) rfl rfl ?_
        refine z_iald0 (N := 600) rfl J rfl rfl (by omega) (fun v6 qv6 => ?_)
        have ev6 := jfull v6
        try rw [vrd qv6 (show l1.toInt = l1.toInt from by omega)] at D
        refine x_iconst (v := (-1)) rfl ki_m1 ?_
        refine x_iceq (tgt := 33) rfl rfl (ti_eq rfl jk_m1 ⟨fun c7 => ?_, fun c7 => ?_⟩)
        ·
          rw [if_pos (by omega)] at D
          refine x_iconst (v := 0) rfl ki_0 ?_
          refine x_zret rfl rfl (by decide) ?_
          show jX m_X7_worthOf 5 0 0 81 [(0, .ref 78), (1, .int l1), (2, .int l2), (3, .int l3)] [.int 0] _ 0 0 _
          refine x_ifeq (tgt := 91) rfl rfl (ti_eq jk_0 jk_0 (br_t (by omega) ?_))
          exact jX.sub (jsb_c rfl (jsb_c rfl (jsb_c rfl (jsb_c rfl jsb_n)))) (ct_X7_worthOf_r78d_91 hD hQ  l1 l2 l3 h (jr_of rfl (by omega)) (jr_of rfl (by omega)) (jr_of rfl (by omega)) J Sm D EV)
        ·
          rw [if_neg (by omega)] at D
          refine x_iconst (v := 1) rfl ki_1 ?_
          refine x_goto (tgt := 34) rfl rfl ?_
          refine x_zret rfl rfl (by decide) ?_
          show jX m_X7_worthOf 5 0 0 81 [(0, .ref 78), (1, .int l1), (2, .int l2), (3, .int l3)] [.int 1] _ 0 0 _
          refine x_ifeq (tgt := 91) rfl rfl (ti_eq jk_1 jk_0 (br_f (by omega) ?_))
          exact jX.sub (jsb_c rfl (jsb_c rfl (jsb_c rfl (jsb_c rfl jsb_n)))) (ct_X7_worthOf_r78d_84 hD hQ  l1 l2 l3 h (jr_of rfl (by omega)) (jr_of rfl (by omega)) (jr_of rfl (by omega)) J Sm D EV)
  ·
    rw [if_pos (by omega)] at D
    refine x_aloadn (x := 78) rfl rfl ?_
    refine z_getR (N := 16) (b := 79) 7 7 rfl f_7_27 rfl J rfl 9991 ⟨rfl, rfl⟩ rfl ?_
    refine x_iloadn (x := l2) rfl rfl ?_
    refine z_iald (N := 600) rfl J rfl sg_79_0_600_1_0_1 rfl (by omega) (fun v8 qv8 ev8 => ?_)
    try rw [vrd qv8 (show l2.toInt = l2.toInt from by omega)] at D
    refine x_iconst (v := 5) rfl ki_5 ?_
    refine x_icne (tgt := 33) rfl rfl (ti_ne rfl jk_5 ⟨fun c9 => ?_, fun c9 => ?_⟩)
    ·
      rw [if_neg (by omega)] at D
      refine x_iconst (v := 0) rfl ki_0 ?_
      refine x_zret rfl rfl (by decide) ?_
      show jX m_X7_worthOf 5 0 0 72 [(0, .ref 78), (1, .int l1), (2, .int l2), (3, .int l3)] [.int 0] _ 0 0 _
      refine x_ifne (tgt := 84) rfl rfl (ti_ne jk_0 jk_0 (bn_f (by omega) ?_))
      refine x_aloadn (x := 78) rfl rfl ?_
      refine x_iloadn (x := l2) rfl rfl ?_
      refine x_iloadn (x := l1) rfl rfl ?_
      refine x_inv (N := m_X7_isWithAge) (As := [.int l2, .int l1]) (b := 78) (st := []) (dx9 := 4) (mc := 0) (ms := 0) (host := "") 7 rfl t_X7_isWithAge ⟨Or.inl q_7_116, i_X7_isWithAge.1, i_X7_isWithAge.2⟩ ⟨by decide, rfl⟩ (congrArg Prod.fst (J.1.1 78 (7, 16) rfl)) rfl (by decide) rfl rfl ⟨by decide, by decide⟩ (jC.of rfl k_X7_isWithAge rfl ?_)
      show jX m_X7_isWithAge 4 0 0 0 [(0, .ref 78), (1, .int l2), (2, .int l1)] [] _ 0 0 _
      refine x_aloadn (x := 78) rfl rfl ?_
      refine z_getR (N := 16) (b := 79) 7 7 rfl f_7_27 rfl J rfl 9991 ⟨rfl, rfl⟩ rfl ?_
      refine x_iloadn (x := l2) rfl rfl ?_
      refine z_ialdM (N := 600) (v := v8) rfl J rfl rfl (by omega) qv8 ?_
      refine x_ifne (tgt := 33) rfl rfl (ti_ne rfl jk_0 ⟨fun c10 => ?_, fun c10 => ?_⟩)
      ·
        rw [if_neg (by omega)] at D
        refine x_iconst (v := 0) rfl ki_0 ?_
        refine x_zret rfl rfl (by decide) ?_
        show jX m_X7_worthOf 5 0 0 81 [(0, .ref 78), (1, .int l1), (2, .int l2), (3, .int l3)] [.int 0] _ 0 0 _
        refine x_ifeq (tgt := 91) rfl rfl (ti_eq jk_0 jk_0 (br_t (by omega) ?_))
        exact jX.sub (jsb_c rfl (jsb_c rfl (jsb_c rfl (jsb_c rfl jsb_n)))) (ct_X7_worthOf_r78d_91 hD hQ  l1 l2 l3 h (jr_of rfl (by omega)) (jr_of rfl (by omega)) (jr_of rfl (by omega)) J Sm D EV)
      ·
        rw [if_pos (by omega)] at D
        refine x_aloadn (x := 78) rfl rfl ?_
        refine z_getR (N := 16) (b := 79) 7 7 rfl f_7_27 rfl J rfl 9991 ⟨rfl, rfl⟩ rfl ?_
        refine x_iloadn (x := l1) rfl rfl ?_
        refine z_ialdM (N := 600) (v := v1) rfl J rfl rfl (by omega) qv1 ?_
        refine x_iconst (v := 5) rfl ki_5 ?_
        refine x_icne (tgt := 33) rfl rfl (ti_ne rfl jk_5 (bn_t (by omega) ?_))
        refine x_iconst (v := 0) rfl ki_0 ?_
        refine x_zret rfl rfl (by decide) ?_
        show jX m_X7_worthOf 5 0 0 81 [(0, .ref 78), (1, .int l1), (2, .int l2), (3, .int l3)] [.int 0] _ 0 0 _
        refine x_ifeq (tgt := 91) rfl rfl (ti_eq jk_0 jk_0 (br_t (by omega) ?_))
        exact jX.sub (jsb_c rfl (jsb_c rfl (jsb_c rfl (jsb_c rfl jsb_n)))) (ct_X7_worthOf_r78d_91 hD hQ  l1 l2 l3 h (jr_of rfl (by omega)) (jr_of rfl (by omega)) (jr_of rfl (by omega)) J Sm D EV)
    ·
      rw [if_pos (by omega)] at D
      refine x_aloadn (x := 78) rfl rfl ?_
      refine z_getR (N := 16) (b := 81) 7 9 rfl f_7_34 rfl J rfl 9993 ⟨rfl, rfl⟩ rfl ?_
      refine x_iloadn (x := l2) rfl rfl ?_
      refine z_iald0 (N := 600) rfl J rfl rfl (by omega) (fun v11 qv11 => ?_)
      have ev11 := jfull v11
      try rw [vrd qv11 (show l2.toInt = l2.toInt from by omega)] at D
      refine x_iconst (v := (-1)) rfl ki_m1 ?_
      refine x_iceq (tgt := 33) rfl rfl (ti_eq rfl jk_m1 ⟨fun c12 => ?_, fun c12 => ?_⟩)
      ·
        rw [if_pos (by omega)] at D
        refine x_iconst (v := 0) rfl ki_0 ?_
        refine x_zret rfl rfl (by decide) ?_
        show jX m_X7_worthOf 5 0 0 72 [(0, .ref 78), (1, .int l1), (2, .int l2), (3, .int l3)] [.int 0] _ 0 0 _
        refine x_ifne (tgt := 84) rfl rfl (ti_ne jk_0 jk_0 (bn_f (by omega) ?_))
        refine x_aloadn (x := 78) rfl rfl ?_
        refine x_iloadn (x := l2) rfl rfl ?_
        refine x_iloadn (x := l1) rfl rfl ?_
        refine x_inv (N := m_X7_isWithAge) (As := [.int l2, .int l1]) (b := 78) (st := []) (dx9 := 4) (mc := 0) (ms := 0) (host := "") 7 rfl t_X7_isWithAge ⟨Or.inl q_7_116, i_X7_isWithAge.1, i_X7_isWithAge.2⟩ ⟨by decide, rfl⟩ (congrArg Prod.fst (J.1.1 78 (7, 16) rfl)) rfl (by decide) rfl rfl ⟨by decide, by decide⟩ (jC.of rfl k_X7_isWithAge rfl ?_)
        show jX m_X7_isWithAge 4 0 0 0 [(0, .ref 78), (1, .int l2), (2, .int l1)] [] _ 0 0 _
        refine x_aloadn (x := 78) rfl rfl ?_
        refine z_getR (N := 16) (b := 79) 7 7 rfl f_7_27 rfl J rfl 9991 ⟨rfl, rfl⟩ rfl ?_
        refine x_iloadn (x := l2) rfl rfl ?_
        refine z_ialdM (N := 600) (v := v8) rfl J rfl rfl (by omega) qv8 ?_
        refine x_ifne (tgt := 33) rfl rfl (ti_ne rfl jk_0 (bn_t (by omega) ?_))
        refine x_iconst (v := 0) rfl ki_0 ?_
        refine x_zret rfl rfl (by decide) ?_
        show jX m_X7_worthOf 5 0 0 81 [(0, .ref 78), (1, .int l1), (2, .int l2), (3, .int l3)] [.int 0] _ 0 0 _
        refine x_ifeq (tgt := 91) rfl rfl (ti_eq jk_0 jk_0 (br_t (by omega) ?_))
        exact jX.sub (jsb_c rfl (jsb_c rfl (jsb_c rfl (jsb_c rfl jsb_n)))) (ct_X7_worthOf_r78d_91 hD hQ  l1 l2 l3 h (jr_of rfl (by omega)) (jr_of rfl (by omega)) (jr_of rfl (by omega)) J Sm D EV)
      ·
        rw [if_neg (by omega)] at D
        refine x_iconst (v := 1) rfl ki_1 ?_
        refine x_goto (tgt := 34) rfl rfl ?_
        refine x_zret rfl rfl (by decide) ?_
        show jX m_X7_worthOf 5 0 0 72 [(0, .ref 78), (1, .int l1), (2, .int l2), (3, .int l3)] [.int 1] _ 0 0 _
        refine x_ifne (tgt := 84) rfl rfl (ti_ne jk_1 jk_0 (bn_t (by omega) ?_))
        exact jX.sub (jsb_c rfl (jsb_c rfl (jsb_c rfl (jsb_c rfl jsb_n)))) (ct_X7_worthOf_r78d_84 hD hQ  l1 l2 l3 h (jr_of rfl (by omega)) (jr_of rfl (by omega)) (jr_of rfl (by omega)) J Sm D EV)
set_option maxRecDepth 100000 in
set_option maxHeartbeats 4000000 in
theorem ct_X7_worthOf_r78d_33 {Dy : jH → Prop} {h0 : jH} {Q : Option Value → jH → Prop} {dr : Int} (hD : jDk Dy) (hQ : ∀ (v : Int32) hx9, (-1) ≤ v.toInt ∧ v.toInt ≤ 400 → jJ jSgX Dy hx9 → jSm fp_X7_worthOf_r78d h0 hx9 → dr = v.toInt → vw hx9 = vw h0 → Q (some (.int v)) hx9) : ∀ (l1 : Int32) (l2 : Int32) (l3 : Int32) (h : jH), 0 ≤ l1.toInt ∧ l1.toInt ≤ 599 → 0 ≤ l2.toInt ∧ l2.toInt ≤ 599 → 0 ≤ l3.toInt ∧ l3.toInt ≤ 100 → jJ jSgX Dy h → jSm fp_X7_worthOf_r78d h0 h → d_X7_worthOf_r78d_33  l1.toInt l2.toInt l3.toInt (vw h) = dr → vw h = vw h0 → jX m_X7_worthOf 5 0 0 33 [(0, .ref 78), (1, .int l1), (2, .int l2), (3, .int l3)] [] h 0 0 Q := by
  intro l1 l2 l3 h y0 y1 y2   J Sm D EV
  unfold d_X7_worthOf_r78d_33 at D
  refine x_aloadn (x := 78) rfl rfl ?_
  refine z_getR (N := 16) (b := 70) 7 1 rfl f_7_59 rfl J rfl 9985 ⟨rfl, rfl⟩ rfl ?_
  refine x_iloadn (x := l1) rfl rfl ?_
  refine x_iloadn (x := l2) rfl rfl ?_
  refine x_iconst (v := 1) rfl ki_1 ?_
  refine x_inv (N := m_X5_areKnown) (As := [.int l1, .int l2, .int 1]) (b := 70) (st := []) (dx9 := 4) (mc := 0) (ms := 0) (host := "") 5 rfl t_X5_areKnown ⟨Or.inl q_7_128, i_X5_areKnown.1, i_X5_areKnown.2⟩ ⟨by decide, rfl⟩ (congrArg Prod.fst (J.1.1 70 (5, 9) rfl)) rfl (by decide) rfl rfl ⟨by decide, by decide⟩ (jC.of rfl k_X5_areKnown rfl ?_)
  show jX m_X5_areKnown 4 0 0 0 [(0, .ref 70), (1, .int l1), (2, .int l2), (3, .int 1)] [] _ 0 0 _
  refine x_aloadn (x := 70) rfl rfl ?_
  refine x_iloadn (x := l1) rfl rfl ?_
  refine x_iloadn (x := 1) rfl rfl ?_
  refine x_inv (N := m_X5_lengthOf) (As := [.int l1, .int 1]) (b := 70) (st := []) (dx9 := 3) (mc := 0) (ms := 0) (host := "") 5 rfl t_X5_lengthOf ⟨Or.inl q_5_133, i_X5_lengthOf.1, i_X5_lengthOf.2⟩ ⟨by decide, rfl⟩ (congrArg Prod.fst (J.1.1 70 (5, 9) rfl)) rfl (by decide) rfl rfl ⟨by decide, by decide⟩ (jC.of rfl k_X5_lengthOf rfl ?_)
  show jX m_X5_lengthOf 3 0 0 0 [(0, .ref 70), (1, .int l1), (2, .int 1)] [] _ 0 0 _
  refine x_iloadn (x := l1) rfl rfl ?_
  refine x_iconst (v := 2) rfl ki_2 ?_
  refine z_imul rfl rfl jk_2 (by omega) (fun v1 ev1 => ?_)
  refine x_iloadn (x := 1) rfl rfl ?_
  refine z_iadd rfl rfl jk_1 (by omega) (fun v2 ev2 => ?_)
  refine x_istoren (lsx9 := [(3, .int v2), (0, .ref 70), (1, .int l1), (2, .int 1)]) rfl rfl rfl ?_
  refine x_iloadn (x := v2) rfl rfl ?_
  refine x_iflt (tgt := 26) rfl rfl (ti_lt rfl jk_0 (br_f (by omega) ?_))
  refine x_iloadn (x := v2) rfl rfl ?_
  refine x_sipush (v := 1200) rfl ks_1200 ?_
  refine x_icge (tgt := 26) rfl rfl (ti_ge rfl jk_1200 (br_f (by omega) ?_))
  refine x_aloadn (x := 70) rfl rfl ?_
  refine z_getR (N := 9) (b := 76) 5 7 rfl f_5_28 rfl J rfl 8967 ⟨rfl, rfl⟩ rfl ?_
  refine x_iloadn (x := v2) rfl rfl ?_
  refine z_iald (N := 1200) rfl J rfl sg_76_0_1200_1_0_1 rfl (by omega) (fun v3 qv3 ev3 => ?_)
  try rw [vrd qv3 (show ((l1.toInt * 2) + 1) = v2.toInt from by omega)] at D
  refine x_goto (tgt := 27) rfl rfl ?_
  refine x_iret rfl rfl ?_
  show jX m_X5_areKnown 4 0 0 6 [(0, .ref 70), (1, .int l1), (2, .int l2), (3, .int 1)] [.int v3] _ 0 0 _
  refine x_iflt (tgt := 22) rfl rfl (ti_lt rfl jk_0 ⟨fun c4 => ?_, fun c4 => ?_⟩)
  ·
    rw [if_pos (by omega)] at D
    refine x_iconst (v := 0) rfl ki_0 ?_
    refine x_zret rfl rfl (by decide) ?_
    show jX m_X7_worthOf 5 0 0 43 [(0, .ref 78), (1, .int l1), (2, .int l2), (3, .int l3)] [.int 0] _ 0 0 _
    refine x_ifeq (tgt := 66) rfl rfl (ti_eq jk_0 jk_0 (br_t (by omega) ?_))
    exact jX.sub (jsb_c rfl (jsb_c rfl (jsb_c rfl (jsb_c rfl jsb_n)))) (ct_X7_worthOf_r78d_66 hD hQ  l1 l2 l3 h (jr_of rfl (by omega)) (jr_of rfl (by omega)) (jr_of rfl (by omega)) J Sm D EV)
  ·
    rw [if_neg (by omega)] at D
    refine x_aloadn (x := 70) rfl rfl ?_
    refine x_iloadn (x := l2) rfl rfl ?_
    refine x_iloadn (x := 1) rfl rfl ?_
    refine x_inv (N := m_X5_lengthOf) (As := [.int l2, .int 1]) (b := 70) (st := []) (dx9 := 3) (mc := 0) (ms := 0) (host := "") 5 rfl t_X5_lengthOf ⟨Or.inl q_5_133, i_X5_lengthOf.1, i_X5_lengthOf.2⟩ ⟨by decide, rfl⟩ (congrArg Prod.fst (J.1.1 70 (5, 9) rfl)) rfl (by decide) rfl rfl ⟨by decide, by decide⟩ (jC.of rfl k_X5_lengthOf rfl ?_)
    show jX m_X5_lengthOf 3 0 0 0 [(0, .ref 70), (1, .int l2), (2, .int 1)] [] _ 0 0 _
    refine x_iloadn (x := l2) rfl rfl ?_
    refine x_iconst (v := 2) rfl ki_2 ?_
    refine z_imul rfl rfl jk_2 (by omega) (fun v5 ev5 => ?_)
    refine x_iloadn (x := 1) rfl rfl ?_
    refine z_iadd rfl rfl jk_1 (by omega) (fun v6 ev6 => ?_)
    refine x_istoren (lsx9 := [(3, .int v6), (0, .ref 70), (1, .int l2), (2, .int 1)]) rfl rfl rfl ?_
    refine x_iloadn (x := v6) rfl rfl ?_
    refine x_iflt (tgt := 26) rfl rfl (ti_lt rfl jk_0 (br_f (by omega) ?_))
    refine x_iloadn (x := v6) rfl rfl ?_
    refine x_sipush (v := 1200) rfl ks_1200 ?_
    refine x_icge (tgt := 26) rfl rfl (ti_ge rfl jk_1200 (br_f (by omega) ?_))
    refine x_aloadn (x := 70) rfl rfl ?_
    refine z_getR (N := 9) (b := 76) 5 7 rfl f_5_28 rfl J rfl 8967 ⟨rfl, rfl⟩ rfl ?_
    refine x_iloadn (x := v6) rfl rfl ?_
    refine z_iald (N := 1200) rfl J rfl sg_76_0_1200_1_0_1 rfl (by omega) (fun v7 qv7 ev7 => ?_)
    try rw [vrd qv7 (show ((l2.toInt * 2) + 1) = v6.toInt from by omega)] at D
    refine x_goto (tgt := 27) rfl rfl ?_
    refine x_iret rfl rfl ?_
    show jX m_X5_areKnown 4 0 0 15 [(0, .ref 70), (1, .int l1), (2, .int l2), (3, .int 1)] [.int v7] _ 0 0 _
    refine x_iflt (tgt := 22) rfl rfl (ti_lt rfl jk_0 ⟨fun c8 => ?_, fun c8 => ?_⟩)
    ·
      rw [if_pos (by omega)] at D
      refine x_iconst (v := 0) rfl ki_0 ?_
      refine x_zret rfl rfl (by decide) ?_
      show jX m_X7_worthOf 5 0 0 43 [(0, .ref 78), (1, .int l1), (2, .int l2), (3, .int l3)] [.int 0] _ 0 0 _
      refine x_ifeq (tgt := 66) rfl rfl (ti_eq jk_0 jk_0 (br_t (by omega) ?_))
      exact jX.sub (jsb_c rfl (jsb_c rfl (jsb_c rfl (jsb_c rfl jsb_n)))) (ct_X7_worthOf_r78d_66 hD hQ  l1 l2 l3 h (jr_of rfl (by omega)) (jr_of rfl (by omega)) (jr_of rfl (by omega)) J Sm D EV)
    ·
      rw [if_neg (by omega)] at D
      refine x_iconst (v := 1) rfl ki_1 ?_
      refine x_goto (tgt := 23) rfl rfl ?_
      refine x_zret rfl rfl (by decide) ?_
      show jX m_X7_worthOf 5 0 0 43 [(0, .ref 78), (1, .int l1), (2, .int l2), (3, .int l3)] [.int 1] _ 0 0 _
      refine x_ifeq (tgt := 66) rfl rfl (ti_eq jk_1 jk_0 (br_f (by omega) ?_))
      refine x_aloadn (x := 78) rfl rfl ?_
      refine z_getR (N := 16) (b := 70) 7 1 rfl f_7_59 rfl J rfl 9985 ⟨rfl, rfl⟩ rfl ?_
      refine x_iloadn (x := l1) rfl rfl ?_
      refine x_iloadn (x := l2) rfl rfl ?_
      refine x_iconst (v := 1) rfl ki_1 ?_
      refine x_inv (N := m_X5_differ) (As := [.int l1, .int l2, .int 1]) (b := 70) (st := []) (dx9 := 1) (mc := 0) (ms := 0) (host := "") 5 rfl t_X5_differ ⟨Or.inl q_7_92, i_X5_differ.1, i_X5_differ.2⟩ ⟨by decide, rfl⟩ (congrArg Prod.fst (J.1.1 70 (5, 9) rfl)) rfl (by decide) rfl rfl ⟨by decide, by decide⟩ (sf_X5_differ_r70d (jr_of rfl (by omega)) (jr_of rfl (by omega)) (jr_of jk_1 (by omega)) hD J rfl  (fun v12 h ev12 J S9 X10 X11 => ?_))
      have Sm := jSm_tr rfl Sm S9
      try rw [jk_1] at X10
      try rw [X10] at D
      try rw [← X11] at D
      have EV := X11.trans EV
      show jX m_X7_worthOf 5 0 0 56 [(0, .ref 78), (1, .int l1), (2, .int l2), (3, .int l3)] [.int v12] _ 0 0 _
      refine x_ifne (tgt := 66) rfl rfl (ti_ne rfl jk_0 ⟨fun c13 => ?_, fun c13 => ?_⟩)
      ·
        rw [if_neg (by omega)] at D
        exact jX.sub (jsb_c rfl (jsb_c rfl (jsb_c rfl (jsb_c rfl jsb_n)))) (ct_X7_worthOf_r78d_66 hD hQ  l1 l2 l3 h (jr_of rfl (by omega)) (jr_of rfl (by omega)) (jr_of rfl (by omega)) J Sm D EV)
      ·
        rw [if_pos (by omega)] at D
        refine x_iloadn (x := l3) rfl rfl ?_
        refine x_aloadn (x := 78) rfl rfl ?_
        refine z_getI (N := 16) 7 3 rfl f_7_15 rfl J rfl sg_78_3_4_1_0_1 (fun v14 qv14 ev14 => ?_)
        try rw [vrf qv14] at D
        refine z_iadd rfl rfl rfl (by omega) (fun v15 ev15 => ?_)
        refine x_istoren (lsx9 := [(3, .int v15), (0, .ref 78), (1, .int l1), (2, .int l2)]) rfl rfl rfl ?_
        try rw [show (l3.toInt + v14.toInt) = v15.toInt from by omega] at D
        exact jX.sub (jsb_c rfl (jsb_c rfl (jsb_c rfl (jsb_c rfl jsb_n)))) (ct_X7_worthOf_r78d_66 hD hQ  l1 l2 v15 h (jr_of rfl (by omega)) (jr_of rfl (by omega)) (jr_of rfl (by omega)) J Sm D EV)
set_option maxRecDepth 100000 in
set_option maxHeartbeats 4000000 in
theorem sf_X7_worthOf_r78d {Dy : jH → Prop} {h : jH} {Q : Option Value → jH → Prop} {dr : Int} {a1 : Int32} {a2 : Int32} (y1 : 0 ≤ a1.toInt ∧ a1.toInt ≤ 599) (y2 : 0 ≤ a2.toInt ∧ a2.toInt ≤ 599) (hD : jDk Dy) (J : jJ jSgX Dy h) (D : d_X7_worthOf_r78d a1.toInt a2.toInt (vw h) = dr) (hQ : ∀ (v : Int32) hx9, (-1) ≤ v.toInt ∧ v.toInt ≤ 400 → jJ jSgX Dy hx9 → jSm fp_X7_worthOf_r78d h hx9 → dr = v.toInt → vw hx9 = vw h → Q (some (.int v)) hx9) : jC m_X7_worthOf 5 0 0 [.ref 78, .int a1, .int a2] h Q := by
  refine jC.of rfl k_X7_worthOf rfl ?_
  have Sm := jSm_rf fp_X7_worthOf_r78d h
  show jX m_X7_worthOf 5 0 0 0 [(0, .ref 78), (1, .int a1), (2, .int a2)] [] _ 0 0 _
  unfold d_X7_worthOf_r78d at D
  have EV : vw h = vw h := rfl
  refine x_aloadn (x := 78) rfl rfl ?_
  refine x_iloadn (x := a1) rfl rfl ?_
  refine x_iloadn (x := a2) rfl rfl ?_
  refine x_inv (N := m_X7_reasonFor) (As := [.int a1, .int a2]) (b := 78) (st := []) (dx9 := 3) (mc := 0) (ms := 0) (host := "") 7 rfl t_X7_reasonFor ⟨Or.inl q_7_125, i_X7_reasonFor.1, i_X7_reasonFor.2⟩ ⟨by decide, rfl⟩ (congrArg Prod.fst (J.1.1 78 (7, 16) rfl)) rfl (by decide) rfl rfl ⟨by decide, by decide⟩ (sf_X7_reasonFor_r78d (jr_of rfl (by omega)) (jr_of rfl (by omega)) hD J rfl  (fun v4 h ev4 J S1 X2 X3 => ?_))
  have Sm := jSm_tr rfl Sm S1
  try rw [X2] at D
  try rw [← X3] at D
  have EV := X3.trans EV
  show jX m_X7_worthOf 5 0 0 6 [(0, .ref 78), (1, .int a1), (2, .int a2)] [.int v4] _ 0 0 _
  refine x_ifeq (tgt := 11) rfl rfl (ti_eq rfl jk_0 ⟨fun c5 => ?_, fun c5 => ?_⟩)
  ·
    rw [if_pos (by omega)] at D
    refine x_iconst (v := 0) rfl ki_0 ?_
    refine x_istoren (lsx9 := [(3, .int 0), (0, .ref 78), (1, .int a1), (2, .int a2)]) rfl rfl rfl ?_
    refine x_aloadn (x := 78) rfl rfl ?_
    refine z_getR (N := 16) (b := 70) 7 1 rfl f_7_59 rfl J rfl 9985 ⟨rfl, rfl⟩ rfl ?_
    refine x_iloadn (x := a1) rfl rfl ?_
    refine x_iloadn (x := a2) rfl rfl ?_
    refine x_iconst (v := 0) rfl ki_0 ?_
    refine x_inv (N := m_X5_areKnown) (As := [.int a1, .int a2, .int 0]) (b := 70) (st := []) (dx9 := 4) (mc := 0) (ms := 0) (host := "") 5 rfl t_X5_areKnown ⟨Or.inl q_7_128, i_X5_areKnown.1, i_X5_areKnown.2⟩ ⟨by decide, rfl⟩ (congrArg Prod.fst (J.1.1 70 (5, 9) rfl)) rfl (by decide) rfl rfl ⟨by decide, by decide⟩ (jC.of rfl k_X5_areKnown rfl ?_)
    show jX m_X5_areKnown 4 0 0 0 [(0, .ref 70), (1, .int a1), (2, .int a2), (3, .int 0)] [] _ 0 0 _
    refine x_aloadn (x := 70) rfl rfl ?_
    refine x_iloadn (x := a1) rfl rfl ?_
    refine x_iloadn (x := 0) rfl rfl ?_
    refine x_inv (N := m_X5_lengthOf) (As := [.int a1, .int 0]) (b := 70) (st := []) (dx9 := 3) (mc := 0) (ms := 0) (host := "") 5 rfl t_X5_lengthOf ⟨Or.inl q_5_133, i_X5_lengthOf.1, i_X5_lengthOf.2⟩ ⟨by decide, rfl⟩ (congrArg Prod.fst (J.1.1 70 (5, 9) rfl)) rfl (by decide) rfl rfl ⟨by decide, by decide⟩ (jC.of rfl k_X5_lengthOf rfl ?_)
    show jX m_X5_lengthOf 3 0 0 0 [(0, .ref 70), (1, .int a1), (2, .int 0)] [] _ 0 0 _
    refine x_iloadn (x := a1) rfl rfl ?_
    refine x_iconst (v := 2) rfl ki_2 ?_
    refine z_imul rfl rfl jk_2 (by omega) (fun v6 ev6 => ?_)
    refine x_iloadn (x := 0) rfl rfl ?_
    refine z_iadd rfl rfl jk_0 (by omega) (fun v7 ev7 => ?_)
    refine x_istoren (lsx9 := [(3, .int v7), (0, .ref 70), (1, .int a1), (2, .int 0)]) rfl rfl rfl ?_
    refine x_iloadn (x := v7) rfl rfl ?_
    refine x_iflt (tgt := 26) rfl rfl (ti_lt rfl jk_0 (br_f (by omega) ?_))
    refine x_iloadn (x := v7) rfl rfl ?_
    refine x_sipush (v := 1200) rfl ks_1200 ?_
    refine x_icge (tgt := 26) rfl rfl (ti_ge rfl jk_1200 (br_f (by omega) ?_))
    refine x_aloadn (x := 70) rfl rfl ?_
    refine z_getR (N := 9) (b := 76) 5 7 rfl f_5_28 rfl J rfl 8967 ⟨rfl, rfl⟩ rfl ?_
    refine x_iloadn (x := v7) rfl rfl ?_
    refine z_iald (N := 1200) rfl J rfl sg_76_0_1200_1_0_1 rfl (by omega) (fun v8 qv8 ev8 => ?_)
    try rw [vrd qv8 (show ((a1.toInt * 2) + 0) = v7.toInt from by omega)] at D
    refine x_goto (tgt := 27) rfl rfl ?_
    refine x_iret rfl rfl ?_
    show jX m_X5_areKnown 4 0 0 6 [(0, .ref 70), (1, .int a1), (2, .int a2), (3, .int 0)] [.int v8] _ 0 0 _
    refine x_iflt (tgt := 22) rfl rfl (ti_lt rfl jk_0 ⟨fun c9 => ?_, fun c9 => ?_⟩)
    ·
      rw [if_pos (by omega)] at D
      refine x_iconst (v := 0) rfl ki_0 ?_
      refine x_zret rfl rfl (by decide) ?_
      show jX m_X7_worthOf 5 0 0 23 [(3, .int 0), (0, .ref 78), (1, .int a1), (2, .int a2)] [.int 0] _ 0 0 _
      refine x_ifeq (tgt := 33) rfl rfl (ti_eq jk_0 jk_0 (br_t (by omega) ?_))
      exact jX.sub (jsb_c rfl (jsb_c rfl (jsb_c rfl (jsb_c rfl jsb_n)))) (ct_X7_worthOf_r78d_33 hD hQ  a1 a2 0 h (jr_of rfl (by omega)) (jr_of rfl (by omega)) (jr_of jk_0 (by omega)) J Sm (by rw [jk_0]; exact D) EV)
    ·
      rw [if_neg (by omega)] at D
      refine x_aloadn (x := 70) rfl rfl ?_
      refine x_iloadn (x := a2) rfl rfl ?_
      refine x_iloadn (x := 0) rfl rfl ?_
      refine x_inv (N := m_X5_lengthOf) (As := [.int a2, .int 0]) (b := 70) (st := []) (dx9 := 3) (mc := 0) (ms := 0) (host := "") 5 rfl t_X5_lengthOf ⟨Or.inl q_5_133, i_X5_lengthOf.1, i_X5_lengthOf.2⟩ ⟨by decide, rfl⟩ (congrArg Prod.fst (J.1.1 70 (5, 9) rfl)) rfl (by decide) rfl rfl ⟨by decide, by decide⟩ (jC.of rfl k_X5_lengthOf rfl ?_)
      show jX m_X5_lengthOf 3 0 0 0 [(0, .ref 70), (1, .int a2), (2, .int 0)] [] _ 0 0 _
      refine x_iloadn (x := a2) rfl rfl ?_
      refine x_iconst (v := 2) rfl ki_2 ?_
      refine z_imul rfl rfl jk_2 (by omega) (fun v10 ev10 => ?_)
      refine x_iloadn (x := 0) rfl rfl ?_
      refine z_iadd rfl rfl jk_0 (by omega) (fun v11 ev11 => ?_)
      refine x_istoren (lsx9 := [(3, .int v11), (0, .ref 70), (1, .int a2), (2, .int 0)]) rfl rfl rfl ?_
      refine x_iloadn (x := v11) rfl rfl ?_
      refine x_iflt (tgt := 26) rfl rfl (ti_lt rfl jk_0 (br_f (by omega) ?_))
      refine x_iloadn (x := v11) rfl rfl ?_
      refine x_sipush (v := 1200) rfl ks_1200 ?_
      refine x_icge (tgt := 26) rfl rfl (ti_ge rfl jk_1200 (br_f (by omega) ?_))
      refine x_aloadn (x := 70) rfl rfl ?_
      refine z_getR (N := 9) (b := 76) 5 7 rfl f_5_28 rfl J rfl 8967 ⟨rfl, rfl⟩ rfl ?_
      refine x_iloadn (x := v11) rfl rfl ?_
      refine z_iald (N := 1200) rfl J rfl sg_76_0_1200_1_0_1 rfl (by omega) (fun v12 qv12 ev12 => ?_)
      try rw [vrd qv12 (show ((a2.toInt * 2) + 0) = v11.toInt from by omega)] at D
      refine x_goto (tgt := 27) rfl rfl ?_
      refine x_iret rfl rfl ?_
      show jX m_X5_areKnown 4 0 0 15 [(0, .ref 70), (1, .int a1), (2, .int a2), (3, .int 0)] [.int v12] _ 0 0 _
      refine x_iflt (tgt := 22) rfl rfl (ti_lt rfl jk_0 ⟨fun c13 => ?_, fun c13 => ?_⟩)
      ·
        rw [if_pos (by omega)] at D
        refine x_iconst (v := 0) rfl ki_0 ?_
        refine x_zret rfl rfl (by decide) ?_
        show jX m_X7_worthOf 5 0 0 23 [(3, .int 0), (0, .ref 78), (1, .int a1), (2, .int a2)] [.int 0] _ 0 0 _
        refine x_ifeq (tgt := 33) rfl rfl (ti_eq jk_0 jk_0 (br_t (by omega) ?_))
        exact jX.sub (jsb_c rfl (jsb_c rfl (jsb_c rfl (jsb_c rfl jsb_n)))) (ct_X7_worthOf_r78d_33 hD hQ  a1 a2 0 h (jr_of rfl (by omega)) (jr_of rfl (by omega)) (jr_of jk_0 (by omega)) J Sm (by rw [jk_0]; exact D) EV)
      ·
        rw [if_neg (by omega)] at D
        refine x_iconst (v := 1) rfl ki_1 ?_
        refine x_goto (tgt := 23) rfl rfl ?_
        refine x_zret rfl rfl (by decide) ?_
        show jX m_X7_worthOf 5 0 0 23 [(3, .int 0), (0, .ref 78), (1, .int a1), (2, .int a2)] [.int 1] _ 0 0 _
        refine x_ifeq (tgt := 33) rfl rfl (ti_eq jk_1 jk_0 (br_f (by omega) ?_))
        refine x_iloadn (x := 0) rfl rfl ?_
        refine x_aloadn (x := 78) rfl rfl ?_
        refine z_getI (N := 16) 7 2 rfl f_7_9 rfl J rfl sg_78_2_3_1_0_1 (fun v14 qv14 ev14 => ?_)
        try rw [vrf qv14] at D
        refine z_iadd rfl jk_0 rfl (by omega) (fun v15 ev15 => ?_)
        refine x_istoren (lsx9 := [(3, .int v15), (0, .ref 78), (1, .int a1), (2, .int a2)]) rfl rfl rfl ?_
        try rw [show (0 + v14.toInt) = v15.toInt from by omega] at D
        exact jX.sub (jsb_c rfl (jsb_c rfl (jsb_c rfl (jsb_c rfl jsb_n)))) (ct_X7_worthOf_r78d_33 hD hQ  a1 a2 v15 h (jr_of rfl (by omega)) (jr_of rfl (by omega)) (jr_of rfl (by omega)) J Sm D EV)
  ·
    rw [if_neg (by omega)] at D
    refine x_iconst (v := (-1)) rfl ki_m1 ?_
    refine x_iret rfl rfl ?_
    exact hQ _ _ (jr_of jk_m1 (by omega)) J Sm (D.symm.trans (show (-1) = ((-1) : Int32).toInt from by have := jk_m1; omega)) EV
def fp_X3_weighPairs_r87d : jFp := [(87, 12, 13), (89, 0, 81), (90, 0, 9)]
set_option maxRecDepth 100000 in
set_option maxHeartbeats 4000000 in
theorem ct_X3_weighPairs_r87d_111 {Dy : jH → Prop} {h0 : jH} {Q : Option Value → jH → Prop} {dr : jW} {K7 : Int → jW → jW} {K24 : Int → Int → jW → jW} {R7 : Int} {R24 : Int} (hD : jDk Dy) (hQ : ∀ hx9, jJ jSgX Dy hx9 → jSm fp_X3_weighPairs_r87d h0 hx9 → dr = vw hx9 → Q none hx9) (k7 : ∀ (l1 : Int32) (g0 : Int32) (h : jH), 9 - l1.toInt < R7 → 0 ≤ l1.toInt ∧ l1.toInt ≤ 9 → jiv h 87 12 = g0 → jJ jSgX Dy h → jSm fp_X3_weighPairs_r87d h0 h → K7 l1.toInt (vw h) = dr → jX m_X3_weighPairs 6 0 0 7 [(0, .ref 87), (1, .int l1)] [] h 0 0 Q) (k24 : ∀ (l1 : Int32) (l2 : Int32) (g0 : Int32) (h : jH), 8 - l2.toInt < R24 → 0 ≤ l1.toInt ∧ l1.toInt ≤ 8 → 0 ≤ l2.toInt ∧ l2.toInt ≤ 8 → jiv h 87 12 = g0 → 9 - l1.toInt ≤ R7 → jJ jSgX Dy h → jSm fp_X3_weighPairs_r87d h0 h → K24 l1.toInt l2.toInt (vw h) = dr → jX m_X3_weighPairs 6 0 0 24 [(0, .ref 87), (1, .int l1), (2, .int l2)] [] h 0 0 Q) : ∀ (l1 : Int32) (l2 : Int32) (g0 : Int32) (h : jH), 1 ≤ l1.toInt ∧ l1.toInt ≤ 8 → 0 ≤ l2.toInt ∧ l2.toInt ≤ 7 → jiv h 87 12 = g0 → 9 - l1.toInt ≤ R7 → 8 - l2.toInt ≤ R24 → jJ jSgX Dy h → jSm fp_X3_weighPairs_r87d h0 h → d_X3_weighPairs_r87d_111 K7 K24  l1.toInt l2.toInt (vw h) = dr → jX m_X3_weighPairs 6 0 0 111 [(0, .ref 87), (1, .int l1), (2, .int l2)] [] h 0 0 Q := by
  intro l1 l2 g0 h y0 y1 z0 m7 m24 J Sm D
  have eg0 := jfull g0
  unfold d_X3_weighPairs_r87d_111 at D
  try rw [vrf z0] at D
  refine z_iinc (x := l2) (lsx9 := fun v1 => [(2, .int v1), (0, .ref 87), (1, .int l1)]) rfl rfl rfl jko_1 (by omega) rfl (fun _ => rfl) (fun v1 ev1 => ?_)
  refine x_goto (tgt := 24) rfl rfl ?_
  try rw [show (l2.toInt + 1) = v1.toInt from by omega] at D
  exact jX.sub (jsb_c rfl (jsb_c rfl (jsb_c rfl jsb_n))) (k24 l1 v1 g0 h (by omega) (jr_of rfl (by omega)) (jr_of rfl (by omega)) z0 (by omega) J Sm D)
set_option maxRecDepth 100000 in
set_option maxHeartbeats 4000000 in
theorem ct_X3_weighPairs_r87d_24 {Dy : jH → Prop} {h0 : jH} {Q : Option Value → jH → Prop} {dr : jW} {K7 : Int → jW → jW} {R7 : Int} (hD : jDk Dy) (hQ : ∀ hx9, jJ jSgX Dy hx9 → jSm fp_X3_weighPairs_r87d h0 hx9 → dr = vw hx9 → Q none hx9) (k7 : ∀ (l1 : Int32) (g0 : Int32) (h : jH), 9 - l1.toInt < R7 → 0 ≤ l1.toInt ∧ l1.toInt ≤ 9 → jiv h 87 12 = g0 → jJ jSgX Dy h → jSm fp_X3_weighPairs_r87d h0 h → K7 l1.toInt (vw h) = dr → jX m_X3_weighPairs 6 0 0 7 [(0, .ref 87), (1, .int l1)] [] h 0 0 Q) : ∀ r : Nat, ∀ (l1 : Int32) (l2 : Int32) (g0 : Int32) (h : jH), 8 - l2.toInt < (r : Int) → 0 ≤ l1.toInt ∧ l1.toInt ≤ 8 → 0 ≤ l2.toInt ∧ l2.toInt ≤ 8 → jiv h 87 12 = g0 → 9 - l1.toInt ≤ R7 → jJ jSgX Dy h → jSm fp_X3_weighPairs_r87d h0 h → d_X3_weighPairs_r87d_24 K7 r l1.toInt l2.toInt (vw h) = dr → jX m_X3_weighPairs 6 0 0 24 [(0, .ref 87), (1, .int l1), (2, .int l2)] [] h 0 0 Q := by
  intro r
  induction r with
  | zero =>
    intro l1 l2 g0 h hm y0 y1 z0 m7 J Sm D
    exfalso
    have eg0 := jfull g0
    omega
  | succ r ih =>
    intro l1 l2 g0 h hm y0 y1 z0 m7 J Sm D
    have eg0 := jfull g0
    rw [d_X3_weighPairs_r87d_24.eq_2] at D
    try rw [vrf z0] at D
    refine x_iloadn (x := l2) rfl rfl ?_
    refine x_iloadn (x := l1) rfl rfl ?_
    refine x_icge (tgt := 117) rfl rfl (ti_ge rfl rfl ⟨fun c1 => ?_, fun c1 => ?_⟩)
    ·
      rw [if_pos (by omega)] at D
      refine z_iinc (x := l1) (lsx9 := fun v2 => [(1, .int v2), (0, .ref 87), (2, .int l2)]) rfl rfl rfl jko_1 (by omega) rfl (fun _ => rfl) (fun v2 ev2 => ?_)
      refine x_goto (tgt := 7) rfl rfl ?_
      try rw [show (l1.toInt + 1) = v2.toInt from by omega] at D
      exact jX.sub (jsb_c rfl (jsb_c rfl jsb_n)) (k7 v2 g0 h (by omega) (jr_of rfl (by omega)) z0 J Sm D)
    ·
      rw [if_neg (by omega)] at D
      refine x_aloadn (x := 87) rfl rfl ?_
      refine z_getR (N := 14) (b := 78) 3 1 rfl f_3_53 rfl J rfl 11137 ⟨rfl, rfl⟩ rfl ?_
      refine x_aloadn (x := 87) rfl rfl ?_
      refine z_getR (N := 14) (b := 88) 3 2 rfl f_3_9 rfl J rfl 11138 ⟨rfl, rfl⟩ rfl ?_
      refine x_iloadn (x := l2) rfl rfl ?_
      refine z_iald (N := 9) rfl J rfl sg_88_0_9_1_0_1 rfl (by omega) (fun v3 qv3 ev3 => ?_)
      try rw [vrd qv3 (show l2.toInt = l2.toInt from by omega)] at D
      refine x_aloadn (x := 87) rfl rfl ?_
      refine z_getR (N := 14) (b := 88) 3 2 rfl f_3_9 rfl J rfl 11138 ⟨rfl, rfl⟩ rfl ?_
      refine x_iloadn (x := l1) rfl rfl ?_
      refine z_iald (N := 9) rfl J rfl sg_88_0_9_1_0_1 rfl (by omega) (fun v4 qv4 ev4 => ?_)
      try rw [vrd qv4 (show l1.toInt = l1.toInt from by omega)] at D
      refine x_inv (N := m_X7_worthOf) (As := [.int v3, .int v4]) (b := 78) (st := []) (dx9 := 5) (mc := 0) (ms := 0) (host := "") 7 rfl t_X7_worthOf ⟨Or.inl q_3_84, i_X7_worthOf.1, i_X7_worthOf.2⟩ ⟨by decide, rfl⟩ (congrArg Prod.fst (J.1.1 78 (7, 16) rfl)) rfl (by decide) rfl rfl ⟨by decide, by decide⟩ (sf_X7_worthOf_r78d (jr_of rfl (by omega)) (jr_of rfl (by omega)) hD J rfl  (fun v8 h ev8 J S5 X6 X7 => ?_))
      have Sm := jSm_tr rfl Sm S5
      try rw [X6] at D
      try rw [← X7] at D
      show jX m_X3_weighPairs 6 0 0 48 [(0, .ref 87), (1, .int l1), (2, .int l2)] [.int v8] _ 0 0 _
      refine x_istoren (lsx9 := [(3, .int v8), (0, .ref 87), (1, .int l1), (2, .int l2)]) rfl rfl rfl ?_
      refine x_aloadn (x := 87) rfl rfl ?_
      refine z_getR (N := 14) (b := 89) 3 4 rfl f_3_19 rfl J rfl 11140 ⟨rfl, rfl⟩ rfl ?_
      refine x_iloadn (x := l1) rfl rfl ?_
      refine x_bipush (v := 9) rfl kb_9 ?_
      refine z_imul rfl rfl jk_9 (by omega) (fun v9 ev9 => ?_)
      refine x_iloadn (x := l2) rfl rfl ?_
      refine z_iadd rfl rfl rfl (by omega) (fun v10 ev10 => ?_)
      refine x_iloadn (x := v8) rfl rfl ?_
      refine z_iast (N := 81) (l := 0) (u := 81) (w := v8.toInt) rfl hD J Sm rfl rfl rfl (by omega) rfl (wr_89 (fun q1 q2 q3 q4 => by omega)) rfl (fun h w11 J Sm => ?_)
      rw [vww w11 (show ((l1.toInt * 9) + l2.toInt) = v10.toInt from by omega) (show v8.toInt = v8.toInt from by omega)] at D
      refine x_aloadn (x := 87) rfl rfl ?_
      refine x_dup rfl rfl ?_
      refine z_getM (N := 14) (v := g0) 3 12 rfl f_3_43 rfl J rfl (jmo w11 rfl (jmc S5 rfl z0)) ?_
      refine x_iconst (v := 0) rfl ki_0 ?_
      refine x_iloadn (x := v8) rfl rfl ?_
      refine z_mmax rfl q_3_88 (by decide) rfl jk_0 rfl (fun v12 ev12 => ?_)
      refine z_iaddW rfl rfl rfl (fun v13 ev13 => ?_)
      have fv13 := jfull v13
      try rw [show (max 0 v8.toInt) = v12.toInt from by omega] at D
      try rw [← ev13] at D
      refine z_putI (N := 14) (w := v13.toInt) 3 12 rfl f_3_43 rfl (jfin_no TX3 RX3 14 rfl rfl) hD J Sm rfl rfl rfl (pw_87_12 trivial) rfl (fun h w14 J Sm => ?_)
      rw [vwf w14 (show v13.toInt = v13.toInt from by omega)] at D
      refine x_aloadn (x := 87) rfl rfl ?_
      refine z_getR (N := 14) (b := 78) 3 1 rfl f_3_53 rfl J rfl 11137 ⟨rfl, rfl⟩ rfl ?_
      refine x_aloadn (x := 87) rfl rfl ?_
      refine z_getR (N := 14) (b := 88) 3 2 rfl f_3_9 rfl J rfl 11138 ⟨rfl, rfl⟩ rfl ?_
      refine x_iloadn (x := l2) rfl rfl ?_
      refine z_ialdM (N := 9) (v := v3) rfl J rfl rfl (by omega) (jmo w14 rfl (jmo w11 rfl (jmc S5 rfl qv3))) ?_
      refine x_inv (N := m_X7_soulAt) (As := [.int v3]) (b := 78) (st := []) (dx9 := 5) (mc := 0) (ms := 0) (host := "") 7 rfl t_X7_soulAt ⟨Or.inl q_3_67, i_X7_soulAt.1, i_X7_soulAt.2⟩ ⟨by decide, rfl⟩ (congrArg Prod.fst (J.1.1 78 (7, 16) rfl)) rfl (by decide) rfl rfl ⟨by decide, by decide⟩ (jC.of rfl k_X7_soulAt rfl ?_)
      show jX m_X7_soulAt 5 0 0 0 [(0, .ref 78), (1, .int v3)] [] _ 0 0 _
      refine x_iloadn (x := v3) rfl rfl ?_
      refine x_iflt (tgt := 36) rfl rfl (ti_lt rfl jk_0 (br_f (by omega) ?_))
      refine x_iloadn (x := v3) rfl rfl ?_
      refine x_sipush (v := 600) rfl ks_600 ?_
      refine x_icge (tgt := 36) rfl rfl (ti_ge rfl jk_600 (br_f (by omega) ?_))
      refine x_iloadn (x := v3) rfl rfl ?_
      refine x_iconst (v := 3) rfl ki_3 ?_
      refine z_idiv rfl rfl jk_3 (by omega) (by omega) (fun v15 ev15 => ?_)
      refine x_aloadn (x := 78) rfl rfl ?_
      refine z_getR (N := 16) (b := 32) 7 0 rfl f_7_55 rfl J rfl 9984 ⟨rfl, rfl⟩ rfl ?_
      refine z_getR (N := 20) (b := 33) 1 0 rfl f_7_63 rfl J rfl 4096 ⟨rfl, rfl⟩ rfl ?_
      refine z_getI (N := 4) 8 3 rfl f_7_85 rfl J rfl sg_33_3_4_1_0_1 (fun v16 qv16 ev16 => ?_)
      try rw [vrf (jmb_w w11 (jmb_w w14 qv16 rfl) rfl)] at D
      refine x_icge (tgt := 36) rfl rfl (ti_ge rfl rfl ⟨fun c17 => ?_, fun c17 => ?_⟩)
      ·
        rw [if_pos (by omega)] at D
        refine x_iconst (v := (-1)) rfl ki_m1 ?_
        refine x_iret rfl rfl ?_
        show jX m_X3_weighPairs 6 0 0 88 [(3, .int v8), (0, .ref 87), (1, .int l1), (2, .int l2)] [.int (-1)] _ 0 0 _
        refine x_aloadn (x := 87) rfl rfl ?_
        refine z_getR (N := 14) (b := 78) 3 1 rfl f_3_53 rfl J rfl 11137 ⟨rfl, rfl⟩ rfl ?_
        refine x_aloadn (x := 87) rfl rfl ?_
        refine z_getR (N := 14) (b := 88) 3 2 rfl f_3_9 rfl J rfl 11138 ⟨rfl, rfl⟩ rfl ?_
        refine x_iloadn (x := l1) rfl rfl ?_
        refine z_ialdM (N := 9) (v := v4) rfl J rfl rfl (by omega) (jmo w14 rfl (jmo w11 rfl (jmc S5 rfl qv4))) ?_
        refine x_inv (N := m_X7_soulAt) (As := [.int v4]) (b := 78) (st := [.int (-1)]) (dx9 := 5) (mc := 0) (ms := 0) (host := "") 7 rfl t_X7_soulAt ⟨Or.inl q_3_67, i_X7_soulAt.1, i_X7_soulAt.2⟩ ⟨by decide, rfl⟩ (congrArg Prod.fst (J.1.1 78 (7, 16) rfl)) rfl (by decide) rfl rfl ⟨by decide, by decide⟩ (jC.of rfl k_X7_soulAt rfl ?_)
        show jX m_X7_soulAt 5 0 0 0 [(0, .ref 78), (1, .int v4)] [] _ 0 0 _
        refine x_iloadn (x := v4) rfl rfl ?_
        refine x_iflt (tgt := 36) rfl rfl (ti_lt rfl jk_0 (br_f (by omega) ?_))
        refine x_iloadn (x := v4) rfl rfl ?_
        refine x_sipush (v := 600) rfl ks_600 ?_
        refine x_icge (tgt := 36) rfl rfl (ti_ge rfl jk_600 (br_f (by omega) ?_))
        refine x_iloadn (x := v4) rfl rfl ?_
        refine x_iconst (v := 3) rfl ki_3 ?_
        refine z_idiv rfl rfl jk_3 (by omega) (by omega) (fun v18 ev18 => ?_)
        refine x_aloadn (x := 78) rfl rfl ?_
        refine z_getR (N := 16) (b := 32) 7 0 rfl f_7_55 rfl J rfl 9984 ⟨rfl, rfl⟩ rfl ?_
        refine z_getR (N := 20) (b := 33) 1 0 rfl f_7_63 rfl J rfl 4096 ⟨rfl, rfl⟩ rfl ?_
        refine z_getM (N := 4) (v := v16) 8 3 rfl f_7_85 rfl J rfl qv16 ?_
        refine x_icge (tgt := 36) rfl rfl (ti_ge rfl rfl ⟨fun c19 => ?_, fun c19 => ?_⟩)
        ·
          rw [if_pos (by omega)] at D
          refine x_iconst (v := (-1)) rfl ki_m1 ?_
          refine x_iret rfl rfl ?_
          show jX m_X3_weighPairs 6 0 0 101 [(3, .int v8), (0, .ref 87), (1, .int l1), (2, .int l2)] [.int (-1), .int (-1)] _ 0 0 _
          refine x_icne (tgt := 111) rfl rfl (ti_ne jk_m1 jk_m1 (bn_f (by omega) ?_))
          refine x_aloadn (x := 87) rfl rfl ?_
          refine z_getR (N := 14) (b := 90) 3 5 rfl f_3_22 rfl J rfl 11141 ⟨rfl, rfl⟩ rfl ?_
          refine x_iloadn (x := l1) rfl rfl ?_
          refine x_iloadn (x := l2) rfl rfl ?_
          refine z_iast (N := 9) (l := 0) (u := 9) (w := l2.toInt) rfl hD J Sm rfl rfl rfl (by omega) rfl (wr_90 (fun q1 q2 q3 q4 => by omega)) rfl (fun h w20 J Sm => ?_)
          rw [vww w20 (show l1.toInt = l1.toInt from by omega) (show l2.toInt = l2.toInt from by omega)] at D
          exact jX.sub (jsb_c rfl (jsb_c rfl (jsb_c rfl jsb_n))) (ct_X3_weighPairs_r87d_111 hD hQ k7 ih l1 l2 v13 h (jr_of rfl (by omega)) (jr_of rfl (by omega)) (jmo w20 rfl (jmw w14)) (by omega) (by omega) J Sm D)
        ·
          rw [if_neg (by omega)] at D
          refine x_aloadn (x := 78) rfl rfl ?_
          refine z_getR (N := 16) (b := 82) 7 10 rfl f_7_37 rfl J rfl 9994 ⟨rfl, rfl⟩ rfl ?_
          refine x_iloadn (x := v4) rfl rfl ?_
          refine z_iald (N := 600) rfl J rfl sg_82_0_600_1_0_1 rfl (by omega) (fun v21 qv21 ev21 => ?_)
          try rw [vrd (jmb_w w11 (jmb_w w14 qv21 rfl) rfl) (show v4.toInt = v4.toInt from by omega)] at D
          refine x_goto (tgt := 37) rfl rfl ?_
          refine x_iret rfl rfl ?_
          show jX m_X3_weighPairs 6 0 0 101 [(3, .int v8), (0, .ref 87), (1, .int l1), (2, .int l2)] [.int v21, .int (-1)] _ 0 0 _
          refine x_icne (tgt := 111) rfl rfl (ti_ne jk_m1 rfl ⟨fun c22 => ?_, fun c22 => ?_⟩)
          ·
            rw [if_neg (by omega)] at D
            exact jX.sub (jsb_c rfl (jsb_c rfl (jsb_c rfl jsb_n))) (ct_X3_weighPairs_r87d_111 hD hQ k7 ih l1 l2 v13 h (jr_of rfl (by omega)) (jr_of rfl (by omega)) (jmw w14) (by omega) (by omega) J Sm D)
          ·
            rw [if_pos (by omega)] at D
            refine x_aloadn (x := 87) rfl rfl ?_
            refine z_getR (N := 14) (b := 90) 3 5 rfl f_3_22 rfl J rfl 11141 ⟨rfl, rfl⟩ rfl ?_
            refine x_iloadn (x := l1) rfl rfl ?_
            refine x_iloadn (x := l2) rfl rfl ?_
            refine z_iast (N := 9) (l := 0) (u := 9) (w := l2.toInt) rfl hD J Sm rfl rfl rfl (by omega) rfl (wr_90 (fun q1 q2 q3 q4 => by omega)) rfl (fun h w23 J Sm => ?_)
            rw [vww w23 (show l1.toInt = l1.toInt from by omega) (show l2.toInt = l2.toInt from by omega)] at D
            exact jX.sub (jsb_c rfl (jsb_c rfl (jsb_c rfl jsb_n))) (ct_X3_weighPairs_r87d_111 hD hQ k7 ih l1 l2 v13 h (jr_of rfl (by omega)) (jr_of rfl (by omega)) (jmo w23 rfl (jmw w14)) (by omega) (by omega) J Sm D)
      ·
        rw [if_neg (by omega)] at D
        refine x_aloadn (x := 78) rfl rfl ?_
        refine z_getR (N := 16) (b := 82) 7 10 rfl f_7_37 rfl J rfl 9994 ⟨rfl, rfl⟩ rfl ?_
        refine x_iloadn (x := v3) rfl rfl ?_
        refine z_iald (N := 600) rfl J rfl sg_82_0_600_1_0_1 rfl (by omega) (fun v24 qv24 ev24 => ?_)
        try rw [vrd (jmb_w w11 (jmb_w w14 qv24 rfl) rfl) (show v3.toInt = v3.toInt from by omega)] at D
        refine x_goto (tgt := 37) rfl rfl ?_
        refine x_iret rfl rfl ?_
        show jX m_X3_weighPairs 6 0 0 88 [(3, .int v8), (0, .ref 87), (1, .int l1), (2, .int l2)] [.int v24] _ 0 0 _
        refine x_aloadn (x := 87) rfl rfl ?_
        refine z_getR (N := 14) (b := 78) 3 1 rfl f_3_53 rfl J rfl 11137 ⟨rfl, rfl⟩ rfl ?_
        refine x_aloadn (x := 87) rfl rfl ?_
        refine z_getR (N := 14) (b := 88) 3 2 rfl f_3_9 rfl J rfl 11138 ⟨rfl, rfl⟩ rfl ?_
        refine x_iloadn (x := l1) rfl rfl ?_
        refine z_ialdM (N := 9) (v := v4) rfl J rfl rfl (by omega) (jmo w14 rfl (jmo w11 rfl (jmc S5 rfl qv4))) ?_
        refine x_inv (N := m_X7_soulAt) (As := [.int v4]) (b := 78) (st := [.int v24]) (dx9 := 5) (mc := 0) (ms := 0) (host := "") 7 rfl t_X7_soulAt ⟨Or.inl q_3_67, i_X7_soulAt.1, i_X7_soulAt.2⟩ ⟨by decide, rfl⟩ (congrArg Prod.fst (J.1.1 78 (7, 16) rfl)) rfl (by decide) rfl rfl ⟨by decide, by decide⟩ (jC.of rfl k_X7_soulAt rfl ?_)
        show jX m_X7_soulAt 5 0 0 0 [(0, .ref 78), (1, .int v4)] [] _ 0 0 _
        refine x_iloadn (x := v4) rfl rfl ?_
        refine x_iflt (tgt := 36) rfl rfl (ti_lt rfl jk_0 (br_f (by omega) ?_))
        refine x_iloadn (x := v4) rfl rfl ?_
        refine x_sipush (v := 600) rfl ks_600 ?_
        refine x_icge (tgt := 36) rfl rfl (ti_ge rfl jk_600 (br_f (by omega) ?_))
        refine x_iloadn (x := v4) rfl rfl ?_
        refine x_iconst (v := 3) rfl ki_3 ?_
        refine z_idiv rfl rfl jk_3 (by omega) (by omega) (fun v25 ev25 => ?_)
        refine x_aloadn (x := 78) rfl rfl ?_
        refine z_getR (N := 16) (b := 32) 7 0 rfl f_7_55 rfl J rfl 9984 ⟨rfl, rfl⟩ rfl ?_
        refine z_getR (N := 20) (b := 33) 1 0 rfl f_7_63 rfl J rfl 4096 ⟨rfl, rfl⟩ rfl ?_
        refine z_getM (N := 4) (v := v16) 8 3 rfl f_7_85 rfl J rfl qv16 ?_
        refine x_icge (tgt := 36) rfl rfl (ti_ge rfl rfl ⟨fun c26 => ?_, fun c26 => ?_⟩)
        ·
          rw [if_pos (by omega)] at D
          refine x_iconst (v := (-1)) rfl ki_m1 ?_
          refine x_iret rfl rfl ?_
          show jX m_X3_weighPairs 6 0 0 101 [(3, .int v8), (0, .ref 87), (1, .int l1), (2, .int l2)] [.int (-1), .int v24] _ 0 0 _
          refine x_icne (tgt := 111) rfl rfl (ti_ne rfl jk_m1 ⟨fun c27 => ?_, fun c27 => ?_⟩)
          ·
            rw [if_neg (by omega)] at D
            exact jX.sub (jsb_c rfl (jsb_c rfl (jsb_c rfl jsb_n))) (ct_X3_weighPairs_r87d_111 hD hQ k7 ih l1 l2 v13 h (jr_of rfl (by omega)) (jr_of rfl (by omega)) (jmw w14) (by omega) (by omega) J Sm D)
          ·
            rw [if_pos (by omega)] at D
            refine x_aloadn (x := 87) rfl rfl ?_
            refine z_getR (N := 14) (b := 90) 3 5 rfl f_3_22 rfl J rfl 11141 ⟨rfl, rfl⟩ rfl ?_
            refine x_iloadn (x := l1) rfl rfl ?_
            refine x_iloadn (x := l2) rfl rfl ?_
            refine z_iast (N := 9) (l := 0) (u := 9) (w := l2.toInt) rfl hD J Sm rfl rfl rfl (by omega) rfl (wr_90 (fun q1 q2 q3 q4 => by omega)) rfl (fun h w28 J Sm => ?_)
            rw [vww w28 (show l1.toInt = l1.toInt from by omega) (show l2.toInt = l2.toInt from by omega)] at D
            exact jX.sub (jsb_c rfl (jsb_c rfl (jsb_c rfl jsb_n))) (ct_X3_weighPairs_r87d_111 hD hQ k7 ih l1 l2 v13 h (jr_of rfl (by omega)) (jr_of rfl (by omega)) (jmo w28 rfl (jmw w14)) (by omega) (by omega) J Sm D)
        ·
          rw [if_neg (by omega)] at D
          refine x_aloadn (x := 78) rfl rfl ?_
          refine z_getR (N := 16) (b := 82) 7 10 rfl f_7_37 rfl J rfl 9994 ⟨rfl, rfl⟩ rfl ?_
          refine x_iloadn (x := v4) rfl rfl ?_
          refine z_iald (N := 600) rfl J rfl sg_82_0_600_1_0_1 rfl (by omega) (fun v29 qv29 ev29 => ?_)
          try rw [vrd (jmb_w w11 (jmb_w w14 qv29 rfl) rfl) (show v4.toInt = v4.toInt from by omega)] at D
          refine x_goto (tgt := 37) rfl rfl ?_
          refine x_iret rfl rfl ?_
          show jX m_X3_weighPairs 6 0 0 101 [(3, .int v8), (0, .ref 87), (1, .int l1), (2, .int l2)] [.int v29, .int v24] _ 0 0 _
          refine x_icne (tgt := 111) rfl rfl (ti_ne rfl rfl ⟨fun c30 => ?_, fun c30 => ?_⟩)
          ·
            rw [if_neg (by omega)] at D
            exact jX.sub (jsb_c rfl (jsb_c rfl (jsb_c rfl jsb_n))) (ct_X3_weighPairs_r87d_111 hD hQ k7 ih l1 l2 v13 h (jr_of rfl (by omega)) (jr_of rfl (by omega)) (jmw w14) (by omega) (by omega) J Sm D)
          ·
            rw [if_pos (by omega)] at D
            refine x_aloadn (x := 87) rfl rfl ?_
            refine z_getR (N := 14) (b := 90) 3 5 rfl f_3_22 rfl J rfl 11141 ⟨rfl, rfl⟩ rfl ?_
            refine x_iloadn (x := l1) rfl rfl ?_
            refine x_iloadn (x := l2) rfl rfl ?_
            refine z_iast (N := 9) (l := 0) (u := 9) (w := l2.toInt) rfl hD J Sm rfl rfl rfl (by omega) rfl (wr_90 (fun q1 q2 q3 q4 => by omega)) rfl (fun h w31 J Sm => ?_)
            rw [vww w31 (show l1.toInt = l1.toInt from by omega) (show l2.toInt = l2.toInt from by omega)] at D
            exact jX.sub (jsb_c rfl (jsb_c rfl (jsb_c rfl jsb_n))) (ct_X3_weighPairs_r87d_111 hD hQ k7 ih l1 l2 v13 h (jr_of rfl (by omega)) (jr_of rfl (by omega)) (jmo w31 rfl (jmw w14)) (by omega) (by omega) J Sm D)
set_option maxRecDepth 100000 in
set_option maxHeartbeats 4000000 in
theorem ct_X3_weighPairs_r87d_7 {Dy : jH → Prop} {h0 : jH} {Q : Option Value → jH → Prop} {dr : jW} (hD : jDk Dy) (hQ : ∀ hx9, jJ jSgX Dy hx9 → jSm fp_X3_weighPairs_r87d h0 hx9 → dr = vw hx9 → Q none hx9) : ∀ r : Nat, ∀ (l1 : Int32) (g0 : Int32) (h : jH), 9 - l1.toInt < (r : Int) → 0 ≤ l1.toInt ∧ l1.toInt ≤ 9 → jiv h 87 12 = g0 → jJ jSgX Dy h → jSm fp_X3_weighPairs_r87d h0 h → d_X3_weighPairs_r87d_7 r l1.toInt (vw h) = dr → jX m_X3_weighPairs 6 0 0 7 [(0, .ref 87), (1, .int l1)] [] h 0 0 Q := by
  intro r
  induction r with
  | zero =>
    intro l1 g0 h hm y0 z0  J Sm D
    exfalso
    have eg0 := jfull g0
    omega
  | succ r ih =>
    intro l1 g0 h hm y0 z0  J Sm D
    have eg0 := jfull g0
    rw [d_X3_weighPairs_r87d_7.eq_2] at D
    try rw [vrf z0] at D
    refine x_iloadn (x := l1) rfl rfl ?_
    refine x_aloadn (x := 87) rfl rfl ?_
    refine z_getI (N := 14) 3 3 rfl f_3_15 rfl J rfl sg_87_3_4_1_0_1 (fun v1 qv1 ev1 => ?_)
    try rw [vrf qv1] at D
    refine x_icge (tgt := 123) rfl rfl (ti_ge rfl rfl ⟨fun c2 => ?_, fun c2 => ?_⟩)
    ·
      rw [if_pos (by omega)] at D
      refine x_vret rfl rfl ?_
      exact hQ _ J Sm D.symm
    ·
      rw [if_neg (by omega)] at D
      refine x_aloadn (x := 87) rfl rfl ?_
      refine z_getR (N := 14) (b := 90) 3 5 rfl f_3_22 rfl J rfl 11141 ⟨rfl, rfl⟩ rfl ?_
      refine x_iloadn (x := l1) rfl rfl ?_
      refine x_iconst (v := (-1)) rfl ki_m1 ?_
      refine z_iast (N := 9) (l := 0) (u := 9) (w := (-1)) rfl hD J Sm rfl rfl rfl (by omega) jk_m1 (wr_90 (fun q1 q2 q3 q4 => by omega)) rfl (fun h w3 J Sm => ?_)
      rw [vww w3 (show l1.toInt = l1.toInt from by omega) (show (-1) = ((-1) : Int32).toInt from by have := jk_m1; omega)] at D
      refine x_iconst (v := 0) rfl ki_0 ?_
      refine x_istoren (lsx9 := [(2, .int 0), (0, .ref 87), (1, .int l1)]) rfl rfl rfl ?_
      exact jX.sub (jsb_c rfl (jsb_c rfl (jsb_c rfl jsb_n))) (ct_X3_weighPairs_r87d_24 hD hQ ih 9 l1 0 g0 h (by have := jk_0; omega) (jr_of rfl (by omega)) (jr_of jk_0 (by omega)) (jmo w3 rfl z0) (by omega) J Sm (by rw [jk_0]; exact D))
set_option maxRecDepth 100000 in
set_option maxHeartbeats 4000000 in
theorem sf_X3_weighPairs_r87d {Dy : jH → Prop} {h : jH} {Q : Option Value → jH → Prop} {dr : jW} (hD : jDk Dy) (J : jJ jSgX Dy h) (D : d_X3_weighPairs_r87d (vw h) = dr) (hQ : ∀ hx9, jJ jSgX Dy hx9 → jSm fp_X3_weighPairs_r87d h hx9 → dr = vw hx9 → Q none hx9) : jC m_X3_weighPairs 6 0 0 [.ref 87] h Q := by
  refine jC.of rfl k_X3_weighPairs rfl ?_
  have Sm := jSm_rf fp_X3_weighPairs_r87d h
  show jX m_X3_weighPairs 6 0 0 0 [(0, .ref 87)] [] _ 0 0 _
  unfold d_X3_weighPairs_r87d at D
  refine x_aloadn (x := 87) rfl rfl ?_
  refine x_iconst (v := 0) rfl ki_0 ?_
  refine z_putI (N := 14) (w := 0) 3 12 rfl f_3_43 rfl (jfin_no TX3 RX3 14 rfl rfl) hD J Sm rfl rfl jk_0 (pw_87_12 trivial) rfl (fun h w1 J Sm => ?_)
  rw [vwf w1 (show 0 = (0 : Int32).toInt from by have := jk_0; omega)] at D
  refine x_iconst (v := 0) rfl ki_0 ?_
  refine x_istoren (lsx9 := [(1, .int 0), (0, .ref 87)]) rfl rfl rfl ?_
  exact jX.sub (jsb_c rfl (jsb_c rfl jsb_n)) (ct_X3_weighPairs_r87d_7 hD hQ  10 0 0 h (by have := jk_0; omega) (jr_of jk_0 (by omega)) (jmw w1) J Sm (by rw [jk_0]; exact D))
def fp_X3_settle_r87d : jFp := [(87, 10, 11), (87, 11, 12), (87, 12, 13), (87, 13, 14), (89, 0, 81), (90, 0, 9), (91, 0, 9), (92, 0, 9), (93, 0, 90), (94, 0, 14401)]
set_option maxRecDepth 100000 in
set_option maxHeartbeats 4000000 in
theorem ct_X3_settle_r87d_62 {Dy : jH → Prop} {h0 : jH} {Q : Option Value → jH → Prop} {dr : jW} (hD : jDk Dy) (hQ : ∀ hx9, jJ jSgX Dy hx9 → jSm fp_X3_settle_r87d h0 hx9 → dr = vw hx9 → Q none hx9) : ∀ (h : jH), jJ jSgX Dy h → jSm fp_X3_settle_r87d h0 h → d_X3_settle_r87d_62  (vw h) = dr → jX m_X3_settle 13 0 0 62 [(0, .ref 87)] [] h 0 0 Q := by
  intro  h    J Sm D
  unfold d_X3_settle_r87d_62 at D
  refine x_aloadn (x := 87) rfl rfl ?_
  refine x_iconst (v := (-1)) rfl ki_m1 ?_
  refine z_putI (N := 14) (w := (-1)) 3 10 rfl f_3_37 rfl (jfin_no TX3 RX3 14 rfl rfl) hD J Sm rfl rfl jk_m1 (pw_87_10 (by omega)) rfl (fun h w1 J Sm => ?_)
  rw [vwf w1 (show (-1) = ((-1) : Int32).toInt from by have := jk_m1; omega)] at D
  refine x_aloadn (x := 87) rfl rfl ?_
  refine x_iconst (v := 0) rfl ki_0 ?_
  refine z_putI (N := 14) (w := 0) 3 11 rfl f_3_40 rfl (jfin_no TX3 RX3 14 rfl rfl) hD J Sm rfl rfl jk_0 (pw_87_11 (by omega)) rfl (fun h w2 J Sm => ?_)
  rw [vwf w2 (show 0 = (0 : Int32).toInt from by have := jk_0; omega)] at D
  refine x_aloadn (x := 87) rfl rfl ?_
  refine x_iconst (v := 0) rfl ki_0 ?_
  refine x_iconst (v := 0) rfl ki_0 ?_
  refine x_iconst (v := 0) rfl ki_0 ?_
  refine x_inv (N := m_X3_place) (As := [.int 0, .int 0, .int 0]) (b := 87) (st := []) (dx9 := 12) (mc := 0) (ms := 0) (host := "") 3 rfl t_X3_place ⟨Or.inl q_3_80, i_X3_place.1, i_X3_place.2⟩ ⟨by decide, rfl⟩ (congrArg Prod.fst (J.1.1 87 (3, 14) rfl)) rfl (by decide) rfl rfl ⟨by decide, by decide⟩ (sf_X3_place_r87_c0d (jr_of jk_0 (by omega)) (jr_of jk_0 (by omega)) hD J rfl  (fun h J S3 X4 => ?_))
  have Sm := jSm_tr rfl Sm S3
  try rw [jk_0] at X4
  rw [X4] at D
  show jX m_X3_settle 13 0 0 79 [(0, .ref 87)] [] _ 0 0 _
  refine x_vret rfl rfl ?_
  exact hQ _ J Sm D.symm
set_option maxRecDepth 100000 in
set_option maxHeartbeats 4000000 in
theorem ct_X3_settle_r87d_32 {Dy : jH → Prop} {h0 : jH} {Q : Option Value → jH → Prop} {dr : jW} (hD : jDk Dy) (hQ : ∀ hx9, jJ jSgX Dy hx9 → jSm fp_X3_settle_r87d h0 hx9 → dr = vw hx9 → Q none hx9) : ∀ r : Nat, ∀ (l1 : Int32) (h : jH), 14401 - l1.toInt < (r : Int) → 0 ≤ l1.toInt ∧ l1.toInt ≤ 14401 → jJ jSgX Dy h → jSm fp_X3_settle_r87d h0 h → d_X3_settle_r87d_32 r l1.toInt (vw h) = dr → jX m_X3_settle 13 0 0 32 [(0, .ref 87), (1, .int l1)] [] h 0 0 Q := by
  intro r
  induction r with
  | zero =>
    intro l1 h hm y0   J Sm D
    exfalso
    omega
  | succ r ih =>
    intro l1 h hm y0   J Sm D
    rw [d_X3_settle_r87d_32.eq_2] at D
    refine x_iloadn (x := l1) rfl rfl ?_
    refine x_aloadn (x := 87) rfl rfl ?_
    refine z_getI0 (N := 14) 3 12 rfl f_3_43 rfl J rfl (fun v1 qv1 => ?_)
    have ev1 := jfull v1
    try rw [vrf qv1] at D
    refine x_icgt (tgt := 62) rfl rfl (ti_gt rfl rfl ⟨fun c2 => ?_, fun c2 => ?_⟩)
    ·
      rw [if_pos (by omega)] at D
      exact jX.sub (jsb_c rfl jsb_n) (ct_X3_settle_r87d_62 hD hQ  h J Sm D)
    ·
      rw [if_neg (by omega)] at D
      refine x_iloadn (x := l1) rfl rfl ?_
      refine x_aloadn (x := 87) rfl rfl ?_
      refine z_getR (N := 14) (b := 94) 3 9 rfl f_3_34 rfl J rfl 11145 ⟨rfl, rfl⟩ rfl ?_
      refine z_alen (N := 14401) (v := 14401) rfl J rfl rfl (by decide) ?_
      refine x_icge (tgt := 62) rfl rfl (ti_ge rfl jk_14401 ⟨fun c3 => ?_, fun c3 => ?_⟩)
      ·
        rw [if_pos (by omega)] at D
        exact jX.sub (jsb_c rfl jsb_n) (ct_X3_settle_r87d_62 hD hQ  h J Sm D)
      ·
        rw [if_neg (by omega)] at D
        refine x_aloadn (x := 87) rfl rfl ?_
        refine z_getR (N := 14) (b := 94) 3 9 rfl f_3_34 rfl J rfl 11145 ⟨rfl, rfl⟩ rfl ?_
        refine x_iloadn (x := l1) rfl rfl ?_
        refine x_iconst (v := 0) rfl ki_0 ?_
        refine z_iast (N := 14401) (l := 0) (u := 14401) (w := 0) rfl hD J Sm rfl rfl rfl (by omega) jk_0 (wr_94) rfl (fun h w4 J Sm => ?_)
        rw [vww w4 (show l1.toInt = l1.toInt from by omega) (show 0 = (0 : Int32).toInt from by have := jk_0; omega)] at D
        refine z_iinc (x := l1) (lsx9 := fun v5 => [(1, .int v5), (0, .ref 87)]) rfl rfl rfl jko_1 (by omega) rfl (fun _ => rfl) (fun v5 ev5 => ?_)
        refine x_goto (tgt := 32) rfl rfl ?_
        try rw [show (l1.toInt + 1) = v5.toInt from by omega] at D
        exact jX.sub (jsb_c rfl (jsb_c rfl jsb_n)) (ih v5 h (by omega) (jr_of rfl (by omega)) J Sm D)
set_option maxRecDepth 100000 in
set_option maxHeartbeats 4000000 in
theorem sf_X3_settle_r87d {Dy : jH → Prop} {h : jH} {Q : Option Value → jH → Prop} {dr : jW} (hD : jDk Dy) (J : jJ jSgX Dy h) (D : d_X3_settle_r87d (vw h) = dr) (hQ : ∀ hx9, jJ jSgX Dy hx9 → jSm fp_X3_settle_r87d h hx9 → dr = vw hx9 → Q none hx9) : jC m_X3_settle 13 0 0 [.ref 87] h Q := by
  refine jC.of rfl k_X3_settle rfl ?_
  have Sm := jSm_rf fp_X3_settle_r87d h
  show jX m_X3_settle 13 0 0 0 [(0, .ref 87)] [] _ 0 0 _
  unfold d_X3_settle_r87d at D
  refine x_aloadn (x := 87) rfl rfl ?_
  refine z_getI0 (N := 14) 3 13 rfl f_3_46 rfl J rfl (fun v1 qv1 => ?_)
  have ev1 := jfull v1
  try rw [vrf qv1] at D
  refine x_aloadn (x := 87) rfl rfl ?_
  refine z_getR (N := 14) (b := 32) 3 0 rfl f_3_49 rfl J rfl 11136 ⟨rfl, rfl⟩ rfl ?_
  refine z_getI0 (N := 20) 1 19 rfl f_3_72 rfl J rfl (fun v2 qv2 => ?_)
  have ev2 := jfull v2
  try rw [vrf qv2] at D
  refine x_icne (tgt := 15) rfl rfl (ti_ne rfl rfl ⟨fun c3 => ?_, fun c3 => ?_⟩)
  ·
    rw [if_neg (by omega)] at D
    refine x_aloadn (x := 87) rfl rfl ?_
    refine x_aloadn (x := 87) rfl rfl ?_
    refine z_getR (N := 14) (b := 32) 3 0 rfl f_3_49 rfl J rfl 11136 ⟨rfl, rfl⟩ rfl ?_
    refine z_getM (N := 20) (v := v2) 1 19 rfl f_3_72 rfl J rfl qv2 ?_
    refine z_putI (N := 14) (w := v2.toInt) 3 13 rfl f_3_46 rfl (jfin_no TX3 RX3 14 rfl rfl) hD J Sm rfl rfl rfl (pw_87_13 trivial) rfl (fun h w4 J Sm => ?_)
    rw [vwf w4 (show v2.toInt = v2.toInt from by omega)] at D
    refine x_aloadn (x := 87) rfl rfl ?_
    refine x_inv (N := m_X3_weighPairs) (As := []) (b := 87) (st := []) (dx9 := 6) (mc := 0) (ms := 0) (host := "") 3 rfl t_X3_weighPairs ⟨Or.inl q_3_77, i_X3_weighPairs.1, i_X3_weighPairs.2⟩ ⟨by decide, rfl⟩ (congrArg Prod.fst (J.1.1 87 (3, 14) rfl)) rfl (by decide) rfl rfl ⟨by decide, by decide⟩ (sf_X3_weighPairs_r87d  hD J rfl  (fun h J S5 X6 => ?_))
    have Sm := jSm_tr rfl Sm S5
    rw [X6] at D
    show jX m_X3_settle 13 0 0 30 [(0, .ref 87)] [] _ 0 0 _
    refine x_iconst (v := 0) rfl ki_0 ?_
    refine x_istoren (lsx9 := [(1, .int 0), (0, .ref 87)]) rfl rfl rfl ?_
    exact jX.sub (jsb_c rfl (jsb_c rfl jsb_n)) (ct_X3_settle_r87d_32 hD hQ  14402 0 h (by have := jk_0; omega) (jr_of jk_0 (by omega)) J Sm (by rw [jk_0]; exact D))
  ·
    rw [if_pos (by omega)] at D
    refine x_vret rfl rfl ?_
    exact hQ _ J Sm D.symm
def fp_X11_best_r31d : jFp := [(78, 13, 14), (82, 0, 600), (83, 0, 600), (84, 0, 200), (86, 0, 3), (87, 10, 11), (87, 11, 12), (87, 12, 13), (87, 13, 14), (89, 0, 81), (90, 0, 9), (91, 0, 9), (92, 0, 9), (93, 0, 90), (94, 0, 14401)]
set_option maxRecDepth 100000 in
set_option maxHeartbeats 4000000 in
theorem ct_X11_best_r31d_25 {Dy : jH → Prop} {h0 : jH} {Q : Option Value → jH → Prop} {dr : (Int × jW)} (hD : jDk Dy) (hQ : ∀ (v : Int32) hx9, jJ jSgX Dy hx9 → jSm fp_X11_best_r31d h0 hx9 → dr.1 = v.toInt → dr.2 = vw hx9 → Q (some (.int v)) hx9) : ∀ (h : jH), jJ jSgX Dy h → jSm fp_X11_best_r31d h0 h → d_X11_best_r31d_25  (vw h) = dr → jX m_X11_best 14 0 0 25 [] [] h 0 0 Q := by
  intro  h    J Sm D
  unfold d_X11_best_r31d_25 at D
  refine x_iconst (v := (-1)) rfl ki_m1 ?_
  refine x_iret rfl rfl ?_
  exact hQ _ _ J Sm ((congrArg Prod.fst D).symm.trans (show (-1) = ((-1) : Int32).toInt from by have := jk_m1; omega)) (congrArg Prod.snd D).symm
set_option maxRecDepth 100000 in
set_option maxHeartbeats 4000000 in
theorem ct_X11_best_r31d_27 {Dy : jH → Prop} {h0 : jH} {Q : Option Value → jH → Prop} {dr : (Int × jW)} (hD : jDk Dy) (hQ : ∀ (v : Int32) hx9, jJ jSgX Dy hx9 → jSm fp_X11_best_r31d h0 hx9 → dr.1 = v.toInt → dr.2 = vw hx9 → Q (some (.int v)) hx9) : ∀ (l1 : Int32) (l2 : Int32) (h : jH), 0 ≤ l1.toInt ∧ l1.toInt ≤ 3 → jJ jSgX Dy h → jSm fp_X11_best_r31d h0 h → d_X11_best_r31d_27  l1.toInt l2.toInt (vw h) = dr → jX m_X11_best 14 0 0 27 [(0, .ref 31), (1, .int l1), (2, .int l2)] [] h 0 0 Q := by
  intro l1 l2 h y0   J Sm D
  have el2 := jfull l2
  unfold d_X11_best_r31d_27 at D
  refine x_aloadn (x := 31) rfl rfl ?_
  refine z_getR (N := 13) (b := 78) 11 4 rfl f_11_41 rfl J rfl 3972 ⟨rfl, rfl⟩ rfl ?_
  refine x_ldc (v := 146399) rfl z_11_233 ?_
  refine x_inv (N := m_X7_asKnown) (As := [.int 146399]) (b := 78) (st := []) (dx9 := 6) (mc := 0) (ms := 0) (host := "") 7 rfl t_X7_asKnown ⟨Or.inl q_11_240, i_X7_asKnown.1, i_X7_asKnown.2⟩ ⟨by decide, rfl⟩ (congrArg Prod.fst (J.1.1 78 (7, 16) rfl)) rfl (by decide) rfl rfl ⟨by decide, by decide⟩ (sf_X7_asKnown_r78d (jr_of jk_146399 (by omega)) hD J rfl  (fun h J S1 X2 => ?_))
  have Sm := jSm_tr rfl Sm S1
  try rw [jk_146399] at X2
  rw [X2] at D
  show jX m_X11_best 14 0 0 36 [(0, .ref 31), (1, .int l1), (2, .int l2)] [] _ 0 0 _
  refine x_aloadn (x := 31) rfl rfl ?_
  refine z_getR (N := 13) (b := 87) 11 5 rfl f_11_50 rfl J rfl 3973 ⟨rfl, rfl⟩ rfl ?_
  refine x_inv (N := m_X3_settle) (As := []) (b := 87) (st := []) (dx9 := 13) (mc := 0) (ms := 0) (host := "") 3 rfl t_X3_settle ⟨Or.inl q_11_282, i_X3_settle.1, i_X3_settle.2⟩ ⟨by decide, rfl⟩ (congrArg Prod.fst (J.1.1 87 (3, 14) rfl)) rfl (by decide) rfl rfl ⟨by decide, by decide⟩ (sf_X3_settle_r87d  hD J rfl  (fun h J S3 X4 => ?_))
  have Sm := jSm_tr rfl Sm S3
  rw [X4] at D
  show jX m_X11_best 14 0 0 43 [(0, .ref 31), (1, .int l1), (2, .int l2)] [] _ 0 0 _
  refine x_iloadn (x := l1) rfl rfl ?_
  by_cases c5 : l1.toInt = 0
  ·
    refine x_tableIn (tgt := 72) 0 rfl c5 (by decide) (by decide) rfl rfl ?_
    rw [if_pos c5] at D
    refine x_aloadn (x := 31) rfl rfl ?_
    refine z_getR (N := 13) (b := 87) 11 5 rfl f_11_50 rfl J rfl 3973 ⟨rfl, rfl⟩ rfl ?_
    refine z_getI (N := 14) 3 10 rfl f_11_285 rfl J rfl sg_87_10_11_1_0_1 (fun v6 qv6 ev6 => ?_)
    try rw [vrf qv6] at D
    refine x_iret rfl rfl ?_
    exact hQ _ _ J Sm ((congrArg Prod.fst D).symm.trans (show v6.toInt = v6.toInt from by omega)) (congrArg Prod.snd D).symm
  rw [if_neg c5] at D
  by_cases c7 : l1.toInt = 1
  ·
    refine x_tableIn (tgt := 80) 1 rfl c7 (by decide) (by decide) rfl rfl ?_
    rw [if_pos c7] at D
    refine x_aloadn (x := 31) rfl rfl ?_
    refine z_getR (N := 13) (b := 87) 11 5 rfl f_11_50 rfl J rfl 3973 ⟨rfl, rfl⟩ rfl ?_
    refine z_getI (N := 14) 3 11 rfl f_11_288 rfl J rfl sg_87_11_12_1_0_1 (fun v8 qv8 ev8 => ?_)
    try rw [vrf qv8] at D
    refine x_iret rfl rfl ?_
    exact hQ _ _ J Sm ((congrArg Prod.fst D).symm.trans (show v8.toInt = v8.toInt from by omega)) (congrArg Prod.snd D).symm
  rw [if_neg c7] at D
  by_cases c9 : l1.toInt = 2
  ·
    refine x_tableIn (tgt := 88) 2 rfl c9 (by decide) (by decide) rfl rfl ?_
    rw [if_pos c9] at D
    refine x_aloadn (x := 31) rfl rfl ?_
    refine z_getR (N := 13) (b := 87) 11 5 rfl f_11_50 rfl J rfl 3973 ⟨rfl, rfl⟩ rfl ?_
    refine z_getI0 (N := 14) 3 12 rfl f_11_291 rfl J rfl (fun v10 qv10 => ?_)
    have ev10 := jfull v10
    try rw [vrf qv10] at D
    refine x_iret rfl rfl ?_
    exact hQ _ _ J Sm ((congrArg Prod.fst D).symm.trans (show v10.toInt = v10.toInt from by omega)) (congrArg Prod.snd D).symm
  rw [if_neg c9] at D
  refine x_tableOut (tgt := 96) rfl (by omega) rfl ?_
  refine x_aloadn (x := 31) rfl rfl ?_
  refine z_getR (N := 13) (b := 87) 11 5 rfl f_11_50 rfl J rfl 3973 ⟨rfl, rfl⟩ rfl ?_
  refine x_iloadn (x := l2) rfl rfl ?_
  refine x_inv (N := m_X3_rivalsWithin) (As := [.int l2]) (b := 87) (st := []) (dx9 := 1) (mc := 0) (ms := 0) (host := "") 3 rfl t_X3_rivalsWithin ⟨Or.inl q_11_294, i_X3_rivalsWithin.1, i_X3_rivalsWithin.2⟩ ⟨by decide, rfl⟩ (congrArg Prod.fst (J.1.1 87 (3, 14) rfl)) rfl (by decide) rfl rfl ⟨by decide, by decide⟩ (sf_X3_rivalsWithin_r87d  hD J rfl  (fun v14 h J S11 X12 X13 => ?_))
  have ev14 := jfull v14
  have Sm := jSm_tr rfl Sm S11
  try rw [X12] at D
  try rw [← X13] at D
  show jX m_X11_best 14 0 0 104 [(0, .ref 31), (1, .int l1), (2, .int l2)] [.int v14] _ 0 0 _
  refine x_iret rfl rfl ?_
  exact hQ _ _ J Sm ((congrArg Prod.fst D).symm.trans (show v14.toInt = v14.toInt from by omega)) (congrArg Prod.snd D).symm
set_option maxRecDepth 100000 in
set_option maxHeartbeats 4000000 in
theorem sf_X11_best_r31d {Dy : jH → Prop} {h : jH} {Q : Option Value → jH → Prop} {dr : (Int × jW)} {a1 : Int32} {a2 : Int32} (hD : jDk Dy) (J : jJ jSgX Dy h) (D : d_X11_best_r31d a1.toInt a2.toInt (vw h) = dr) (hQ : ∀ (v : Int32) hx9, jJ jSgX Dy hx9 → jSm fp_X11_best_r31d h hx9 → dr.1 = v.toInt → dr.2 = vw hx9 → Q (some (.int v)) hx9) : jC m_X11_best 14 0 0 [.ref 31, .int a1, .int a2] h Q := by
  refine jC.of rfl k_X11_best rfl ?_
  have Sm := jSm_rf fp_X11_best_r31d h
  have ea1 := jfull a1
  have ea2 := jfull a2
  show jX m_X11_best 14 0 0 0 [(0, .ref 31), (1, .int a1), (2, .int a2)] [] _ 0 0 _
  unfold d_X11_best_r31d at D
  refine x_iloadn (x := a1) rfl rfl ?_
  refine x_iflt (tgt := 25) rfl rfl (ti_lt rfl jk_0 ⟨fun c1 => ?_, fun c1 => ?_⟩)
  ·
    rw [if_pos (by omega)] at D
    exact jX.sub jsb_n (ct_X11_best_r31d_25 hD hQ  h J Sm D)
  ·
    rw [if_neg (by omega)] at D
    refine x_iloadn (x := a1) rfl rfl ?_
    refine x_iconst (v := 3) rfl ki_3 ?_
    refine x_icgt (tgt := 25) rfl rfl (ti_gt rfl jk_3 ⟨fun c2 => ?_, fun c2 => ?_⟩)
    ·
      rw [if_pos (by omega)] at D
      exact jX.sub jsb_n (ct_X11_best_r31d_25 hD hQ  h J Sm D)
    ·
      rw [if_neg (by omega)] at D
      refine x_iloadn (x := a1) rfl rfl ?_
      refine x_iconst (v := 3) rfl ki_3 ?_
      refine x_icne (tgt := 27) rfl rfl (ti_ne rfl jk_3 ⟨fun c3 => ?_, fun c3 => ?_⟩)
      ·
        rw [if_neg (by omega)] at D
        exact jX.sub (jsb_c rfl (jsb_c rfl (jsb_c rfl jsb_n))) (ct_X11_best_r31d_27 hD hQ  a1 a2 h (jr_of rfl (by omega)) J Sm D)
      ·
        rw [if_pos (by omega)] at D
        refine x_iloadn (x := a2) rfl rfl ?_
        refine x_iflt (tgt := 25) rfl rfl (ti_lt rfl jk_0 ⟨fun c4 => ?_, fun c4 => ?_⟩)
        ·
          rw [if_pos (by omega)] at D
          exact jX.sub jsb_n (ct_X11_best_r31d_25 hD hQ  h J Sm D)
        ·
          rw [if_neg (by omega)] at D
          refine x_iloadn (x := a2) rfl rfl ?_
          refine x_sipush (v := 1000) rfl ks_1000 ?_
          refine x_icle (tgt := 27) rfl rfl (ti_le rfl jk_1000 ⟨fun c5 => ?_, fun c5 => ?_⟩)
          ·
            rw [if_pos (by omega)] at D
            exact jX.sub (jsb_c rfl (jsb_c rfl (jsb_c rfl jsb_n))) (ct_X11_best_r31d_27 hD hQ  a1 a2 h (jr_of rfl (by omega)) J Sm D)
          ·
            rw [if_neg (by omega)] at D
            exact jX.sub jsb_n (ct_X11_best_r31d_25 hD hQ  h J Sm D)
def fp_X11_beyond_r31d : jFp := [(78, 13, 14), (82, 0, 600), (83, 0, 600), (84, 0, 200), (85, 0, 4), (86, 0, 3), (98, 10, 11), (98, 11, 12), (98, 12, 13), (98, 13, 14), (98, 14, 15), (98, 15, 16), (99, 0, 30), (100, 0, 30), (101, 0, 3), (102, 0, 40), (103, 0, 40), (104, 0, 40), (105, 0, 3), (106, 0, 100)]
set_option maxRecDepth 100000 in
set_option maxHeartbeats 4000000 in
theorem ct_X11_beyond_r31d_25 {Dy : jH → Prop} {h0 : jH} {Q : Option Value → jH → Prop} {dr : (Int × jW)} (hD : jDk Dy) (hQ : ∀ (v : Int32) hx9, jJ jSgX Dy hx9 → jSm fp_X11_beyond_r31d h0 hx9 → dr.1 = v.toInt → dr.2 = vw hx9 → Q (some (.int v)) hx9) : ∀ (h : jH), jJ jSgX Dy h → jSm fp_X11_beyond_r31d h0 h → d_X11_beyond_r31d_25  (vw h) = dr → jX m_X11_beyond 8 0 0 25 [] [] h 0 0 Q := by
  intro  h    J Sm D
  unfold d_X11_beyond_r31d_25 at D
  refine x_iconst (v := (-1)) rfl ki_m1 ?_
  refine x_iret rfl rfl ?_
  exact hQ _ _ J Sm ((congrArg Prod.fst D).symm.trans (show (-1) = ((-1) : Int32).toInt from by have := jk_m1; omega)) (congrArg Prod.snd D).symm
set_option maxRecDepth 100000 in
set_option maxHeartbeats 4000000 in
theorem sf_X11_beyond_r31d {Dy : jH → Prop} {h : jH} {Q : Option Value → jH → Prop} {dr : (Int × jW)} {a1 : Int32} {a2 : Int32} (hD : jDk Dy) (J : jJ jSgX Dy h) (D : d_X11_beyond_r31d a1.toInt a2.toInt (vw h) = dr) (hQ : ∀ (v : Int32) hx9, jJ jSgX Dy hx9 → jSm fp_X11_beyond_r31d h hx9 → dr.1 = v.toInt → dr.2 = vw hx9 → Q (some (.int v)) hx9) : jC m_X11_beyond 8 0 0 [.ref 31, .int a1, .int a2] h Q := by
  refine jC.of rfl k_X11_beyond rfl ?_
  have Sm := jSm_rf fp_X11_beyond_r31d h
  have ea1 := jfull a1
  have ea2 := jfull a2
  show jX m_X11_beyond 8 0 0 0 [(0, .ref 31), (1, .int a1), (2, .int a2)] [] _ 0 0 _
  unfold d_X11_beyond_r31d at D
  refine x_aloadn (x := 31) rfl rfl ?_
  refine x_iloadn (x := a1) rfl rfl ?_
  refine x_iloadn (x := a2) rfl rfl ?_
  refine x_inv (N := m_X11_isKnownLine) (As := [.int a1, .int a2]) (b := 31) (st := []) (dx9 := 7) (mc := 0) (ms := 0) (host := "") 11 rfl t_X11_isKnownLine ⟨Or.inl q_11_393, i_X11_isKnownLine.1, i_X11_isKnownLine.2⟩ ⟨by decide, rfl⟩ (congrArg Prod.fst (J.1.1 31 (11, 13) rfl)) rfl (by decide) rfl rfl ⟨by decide, by decide⟩ (jC.of rfl k_X11_isKnownLine rfl ?_)
  show jX m_X11_isKnownLine 7 0 0 0 [(0, .ref 31), (1, .int a1), (2, .int a2)] [] _ 0 0 _
  refine x_iloadn (x := a2) rfl rfl ?_
  refine x_inst (N := m_X11_isDay) (As := [.int a2]) (st := []) (dx9 := 1) (mc := 0) (ms := 0) (host := "") rfl t_X11_isDay ⟨Or.inl q_11_115, s_X11_isDay⟩ rfl (by decide) rfl rfl ⟨by decide, by decide⟩ (zc_X11_isDay rfl (fun v1 ev1 => ?_))
  show jX m_X11_isKnownLine 7 0 0 4 [(0, .ref 31), (1, .int a1), (2, .int a2)] [.int v1] _ 0 0 _
  refine x_ifeq (tgt := 26) rfl rfl (ti_eq rfl jk_0 ⟨fun c2 => ?_, fun c2 => ?_⟩)
  ·
    rw [if_neg (by omega)] at D
    refine x_iconst (v := 0) rfl ki_0 ?_
    refine x_zret rfl rfl (by decide) ?_
    show jX m_X11_beyond 8 0 0 6 [(0, .ref 31), (1, .int a1), (2, .int a2)] [.int 0] _ 0 0 _
    refine x_ifeq (tgt := 25) rfl rfl (ti_eq jk_0 jk_0 (br_t (by omega) ?_))
    exact jX.sub jsb_n (ct_X11_beyond_r31d_25 hD hQ  h J Sm D)
  ·
    rw [if_pos (by omega)] at D
    refine x_aloadn (x := 31) rfl rfl ?_
    refine z_getR (N := 13) (b := 32) 11 0 rfl f_11_10 rfl J rfl 3968 ⟨rfl, rfl⟩ rfl ?_
    refine z_getR (N := 20) (b := 33) 1 0 rfl f_11_126 rfl J rfl 4096 ⟨rfl, rfl⟩ rfl ?_
    refine x_iloadn (x := a1) rfl rfl ?_
    refine x_iloadn (x := a2) rfl rfl ?_
    refine x_inv (N := m_X8_isKnown) (As := [.int a1, .int a2]) (b := 33) (st := []) (dx9 := 1) (mc := 0) (ms := 0) (host := "") 8 rfl t_X8_isKnown ⟨Or.inl q_11_440, i_X8_isKnown.1, i_X8_isKnown.2⟩ ⟨by decide, rfl⟩ (congrArg Prod.fst (J.1.1 33 (8, 4) rfl)) rfl (by decide) rfl rfl ⟨by decide, by decide⟩ (sf_X8_isKnown_r33d (jr_of rfl (by omega)) hD J rfl  (fun v6 h ev6 J S3 X4 X5 => ?_))
    have Sm := jSm_tr rfl Sm S3
    try rw [X4] at D
    try rw [← X5] at D
    show jX m_X11_isKnownLine 7 0 0 19 [(0, .ref 31), (1, .int a1), (2, .int a2)] [.int v6] _ 0 0 _
    refine x_ifeq (tgt := 26) rfl rfl (ti_eq rfl jk_0 ⟨fun c7 => ?_, fun c7 => ?_⟩)
    ·
      rw [if_pos (by omega)] at D
      refine x_iconst (v := 0) rfl ki_0 ?_
      refine x_zret rfl rfl (by decide) ?_
      show jX m_X11_beyond 8 0 0 6 [(0, .ref 31), (1, .int a1), (2, .int a2)] [.int 0] _ 0 0 _
      refine x_ifeq (tgt := 25) rfl rfl (ti_eq jk_0 jk_0 (br_t (by omega) ?_))
      exact jX.sub jsb_n (ct_X11_beyond_r31d_25 hD hQ  h J Sm D)
    ·
      rw [if_neg (by omega)] at D
      refine x_iconst (v := 1) rfl ki_1 ?_
      refine x_goto (tgt := 27) rfl rfl ?_
      refine x_zret rfl rfl (by decide) ?_
      show jX m_X11_beyond 8 0 0 6 [(0, .ref 31), (1, .int a1), (2, .int a2)] [.int 1] _ 0 0 _
      refine x_ifeq (tgt := 25) rfl rfl (ti_eq jk_1 jk_0 (br_f (by omega) ?_))
      refine x_aloadn (x := 31) rfl rfl ?_
      refine z_getR (N := 13) (b := 32) 11 0 rfl f_11_10 rfl J rfl 3968 ⟨rfl, rfl⟩ rfl ?_
      refine z_getR (N := 20) (b := 33) 1 0 rfl f_11_126 rfl J rfl 4096 ⟨rfl, rfl⟩ rfl ?_
      refine x_iloadn (x := a1) rfl rfl ?_
      refine x_iconst (v := 2) rfl ki_2 ?_
      refine x_inv (N := m_X8_at) (As := [.int a1, .int 2]) (b := 33) (st := []) (dx9 := 1) (mc := 0) (ms := 0) (host := "") 8 rfl t_X8_at ⟨Or.inl q_11_171, i_X8_at.1, i_X8_at.2⟩ ⟨by decide, rfl⟩ (congrArg Prod.fst (J.1.1 33 (8, 4) rfl)) rfl (by decide) rfl rfl ⟨by decide, by decide⟩ (sf_X8_at_r33_c2d  hD J rfl  (fun v11 h ev11 J S8 X9 X10 => ?_))
      have Sm := jSm_tr rfl Sm S8
      try rw [X9] at D
      try rw [← X10] at D
      show jX m_X11_beyond 8 0 0 21 [(0, .ref 31), (1, .int a1), (2, .int a2)] [.int v11] _ 0 0 _
      refine x_iconst (v := 4) rfl ki_4 ?_
      refine x_iceq (tgt := 27) rfl rfl (ti_eq rfl jk_4 ⟨fun c12 => ?_, fun c12 => ?_⟩)
      ·
        rw [if_pos (by omega)] at D
        refine x_aloadn (x := 31) rfl rfl ?_
        refine x_iloadn (x := a1) rfl rfl ?_
        refine x_iconst (v := 3) rfl ki_3 ?_
        refine z_imulW rfl rfl jk_3 (fun v13 ev13 => ?_)
        have fv13 := jfull v13
        try rw [← ev13] at D
        refine x_iloadn (x := a2) rfl rfl ?_
        refine x_inv (N := m_X11_soulOn) (As := [.int v13, .int a2]) (b := 31) (st := []) (dx9 := 7) (mc := 0) (ms := 0) (host := "") 11 rfl t_X11_soulOn ⟨Or.inl q_11_234, i_X11_soulOn.1, i_X11_soulOn.2⟩ ⟨by decide, rfl⟩ (congrArg Prod.fst (J.1.1 31 (11, 13) rfl)) rfl (by decide) rfl rfl ⟨by decide, by decide⟩ (jC.of rfl k_X11_soulOn rfl ?_)
        show jX m_X11_soulOn 7 0 0 0 [(0, .ref 31), (1, .int v13), (2, .int a2)] [] _ 0 0 _
        refine x_iloadn (x := a2) rfl rfl ?_
        refine x_inst (N := m_X11_isDay) (As := [.int a2]) (st := []) (dx9 := 1) (mc := 0) (ms := 0) (host := "") rfl t_X11_isDay ⟨Or.inl q_11_115, s_X11_isDay⟩ rfl (by decide) rfl rfl ⟨by decide, by decide⟩ (zc_X11_isDay rfl (fun v14 ev14 => ?_))
        show jX m_X11_soulOn 7 0 0 4 [(0, .ref 31), (1, .int v13), (2, .int a2)] [.int v14] _ 0 0 _
        refine x_ifeq (tgt := 18) rfl rfl (ti_eq rfl jk_0 ⟨fun c15 => ?_, fun c15 => ?_⟩)
        ·
          rw [if_neg (by omega)] at D
          refine x_iconst (v := (-1)) rfl ki_m1 ?_
          refine x_iret rfl rfl ?_
          show jX m_X11_beyond 8 0 0 35 [(0, .ref 31), (1, .int a1), (2, .int a2)] [.int (-1)] _ 0 0 _
          refine x_istoren (lsx9 := [(3, .int (-1)), (0, .ref 31), (1, .int a1), (2, .int a2)]) rfl rfl rfl ?_
          refine x_aloadn (x := 31) rfl rfl ?_
          refine z_getR (N := 13) (b := 98) 11 7 rfl f_11_66 rfl J rfl 3975 ⟨rfl, rfl⟩ rfl ?_
          refine x_aloadn (x := 31) rfl rfl ?_
          refine z_getR (N := 13) (b := 32) 11 0 rfl f_11_10 rfl J rfl 3968 ⟨rfl, rfl⟩ rfl ?_
          refine z_getR (N := 20) (b := 33) 1 0 rfl f_11_126 rfl J rfl 4096 ⟨rfl, rfl⟩ rfl ?_
          refine x_iloadn (x := a1) rfl rfl ?_
          refine x_iconst (v := 1) rfl ki_1 ?_
          refine x_inv (N := m_X8_at) (As := [.int a1, .int 1]) (b := 33) (st := [.ref 98]) (dx9 := 1) (mc := 0) (ms := 0) (host := "") 8 rfl t_X8_at ⟨Or.inl q_11_171, i_X8_at.1, i_X8_at.2⟩ ⟨by decide, rfl⟩ (congrArg Prod.fst (J.1.1 33 (8, 4) rfl)) rfl (by decide) rfl rfl ⟨by decide, by decide⟩ (sf_X8_at_r33_c1d  hD J rfl  (fun v19 h ev19 J S16 X17 X18 => ?_))
          have Sm := jSm_tr rfl Sm S16
          try rw [X17] at D
          try rw [← X18] at D
          show jX m_X11_beyond 8 0 0 52 [(3, .int (-1)), (0, .ref 31), (1, .int a1), (2, .int a2)] [.int v19, .ref 98] _ 0 0 _
          refine x_iloadn (x := a2) rfl rfl ?_
          refine x_inv (N := m_X0_turnTo) (As := [.int v19, .int a2]) (b := 98) (st := []) (dx9 := 7) (mc := 0) (ms := 0) (host := "") 0 rfl t_X0_turnTo ⟨Or.inl q_11_345, i_X0_turnTo.1, i_X0_turnTo.2⟩ ⟨by decide, rfl⟩ (congrArg Prod.fst (J.1.1 98 (0, 16) rfl)) rfl (by decide) rfl rfl ⟨by decide, by decide⟩ (jC.of rfl k_X0_turnTo rfl ?_)
          show jX m_X0_turnTo 7 0 0 0 [(0, .ref 98), (1, .int v19), (2, .int a2)] [] _ 0 0 _
          refine x_aloadn (x := 98) rfl rfl ?_
          refine x_iloadn (x := v19) rfl rfl ?_
          refine x_iloadn (x := a2) rfl rfl ?_
          refine x_inv (N := m_X0_readLaws) (As := [.int v19, .int a2]) (b := 98) (st := []) (dx9 := 3) (mc := 0) (ms := 0) (host := "") 0 rfl t_X0_readLaws ⟨Or.inl q_0_65, i_X0_readLaws.1, i_X0_readLaws.2⟩ ⟨by decide, rfl⟩ (congrArg Prod.fst (J.1.1 98 (0, 16) rfl)) rfl (by decide) rfl rfl ⟨by decide, by decide⟩ (sf_X0_readLaws_r98d (jr_of rfl (by omega)) (jr_of rfl (by omega)) hD J rfl  (fun h J S20 X21 => ?_))
          have Sm := jSm_tr rfl Sm S20
          rw [X21] at D
          show jX m_X0_turnTo 7 0 0 6 [(0, .ref 98), (1, .int v19), (2, .int a2)] [] _ 0 0 _
          refine x_aloadn (x := 98) rfl rfl ?_
          refine x_iloadn (x := v19) rfl rfl ?_
          refine x_iloadn (x := a2) rfl rfl ?_
          refine x_inv (N := m_X0_readHouses) (As := [.int v19, .int a2]) (b := 98) (st := []) (dx9 := 3) (mc := 0) (ms := 0) (host := "") 0 rfl t_X0_readHouses ⟨Or.inl q_0_69, i_X0_readHouses.1, i_X0_readHouses.2⟩ ⟨by decide, rfl⟩ (congrArg Prod.fst (J.1.1 98 (0, 16) rfl)) rfl (by decide) rfl rfl ⟨by decide, by decide⟩ (sf_X0_readHouses_r98d (jr_of rfl (by omega)) (jr_of rfl (by omega)) hD J rfl  (fun h J S22 X23 => ?_))
          have Sm := jSm_tr rfl Sm S22
          rw [X23] at D
          show jX m_X0_turnTo 7 0 0 12 [(0, .ref 98), (1, .int v19), (2, .int a2)] [] _ 0 0 _
          refine x_vret rfl rfl ?_
          show jX m_X11_beyond 8 0 0 56 [(3, .int (-1)), (0, .ref 31), (1, .int a1), (2, .int a2)] [] _ 0 0 _
          refine x_aloadn (x := 31) rfl rfl ?_
          refine z_getR (N := 13) (b := 98) 11 7 rfl f_11_66 rfl J rfl 3975 ⟨rfl, rfl⟩ rfl ?_
          refine x_iconst (v := 3) rfl ki_3 ?_
          refine x_iconst (v := 0) rfl ki_0 ?_
          refine x_iloadn (x := (-1)) rfl rfl ?_
          refine x_inv (N := m_X0_weigh) (As := [.int 3, .int 0, .int (-1)]) (b := 98) (st := []) (dx9 := 6) (mc := 0) (ms := 0) (host := "") 0 rfl t_X0_weigh ⟨Or.inl q_11_359, i_X0_weigh.1, i_X0_weigh.2⟩ ⟨by decide, rfl⟩ (congrArg Prod.fst (J.1.1 98 (0, 16) rfl)) rfl (by decide) rfl rfl ⟨by decide, by decide⟩ (sf_X0_weigh_r98d (jr_of jk_3 (by omega)) (jr_of jk_0 (by omega)) (jr_of jk_m1 (by omega)) hD J rfl  (fun v27 h ev27 J S24 X25 X26 => ?_))
          have Sm := jSm_tr rfl Sm S24
          try rw [jk_3] at X25
          try rw [jk_0] at X25
          try rw [jk_m1] at X25
          try rw [jk_3] at X26
          try rw [jk_0] at X26
          try rw [jk_m1] at X26
          try rw [X25] at D
          try rw [X26] at D
          show jX m_X11_beyond 8 0 0 66 [(3, .int (-1)), (0, .ref 31), (1, .int a1), (2, .int a2)] [.int v27] _ 0 0 _
          refine x_pop rfl rfl ?_
          refine x_aloadn (x := 31) rfl rfl ?_
          refine z_getR (N := 13) (b := 32) 11 0 rfl f_11_10 rfl J rfl 3968 ⟨rfl, rfl⟩ rfl ?_
          refine z_getR (N := 20) (b := 33) 1 0 rfl f_11_126 rfl J rfl 4096 ⟨rfl, rfl⟩ rfl ?_
          refine x_iloadn (x := a1) rfl rfl ?_
          refine x_iconst (v := 4) rfl ki_4 ?_
          refine x_inv (N := m_X8_at) (As := [.int a1, .int 4]) (b := 33) (st := []) (dx9 := 1) (mc := 0) (ms := 0) (host := "") 8 rfl t_X8_at ⟨Or.inl q_11_171, i_X8_at.1, i_X8_at.2⟩ ⟨by decide, rfl⟩ (congrArg Prod.fst (J.1.1 33 (8, 4) rfl)) rfl (by decide) rfl rfl ⟨by decide, by decide⟩ (sf_X8_at_r33_c4d  hD J rfl  (fun v31 h J S28 X29 X30 => ?_))
          have ev31 := jfull v31
          have Sm := jSm_tr rfl Sm S28
          try rw [X29] at D
          try rw [← X30] at D
          show jX m_X11_beyond 8 0 0 79 [(3, .int (-1)), (0, .ref 31), (1, .int a1), (2, .int a2)] [.int v31] _ 0 0 _
          refine z_i2l rfl rfl (fun v32 ev32 => ?_)
          refine x_lconst (v := 0) rfl kl_0 ?_
          refine x_aloadn (x := 31) rfl rfl ?_
          refine z_getR (N := 13) (b := 98) 11 7 rfl f_11_66 rfl J rfl 3975 ⟨rfl, rfl⟩ rfl ?_
          refine z_getLQ (N := 16) 0 14 rfl f_11_362 rfl J rfl (fun v33 qv33 => ?_)
          have ev33 := jfullL v33
          try rw [vrfL qv33] at D
          refine z_lmax rfl q_11_485 (by decide) rfl jkl_0 rfl (fun v34 ev34 => ?_)
          refine z_lsubW rfl rfl rfl (fun v35 ev35 => ?_)
          have fv35 := jfullL v35
          try rw [show v31.toInt = v32.toInt from by omega] at D
          try rw [show (max 0 v33.toInt) = v34.toInt from by omega] at D
          try rw [← ev35] at D
          refine x_lstore (lsx9 := [(4, .long v35), (3, .int (-1)), (0, .ref 31), (1, .int a1), (2, .int a2)]) rfl rfl rfl ?_
          refine x_lconst (v := 0) rfl kl_0 ?_
          refine x_lload (x := v35) rfl rfl ?_
          refine z_lmax rfl q_11_485 (by decide) rfl jkl_0 rfl (fun v36 ev36 => ?_)
          refine z_l2iD rfl rfl (fun v37 ev37 => ?_)
          have fv37 := jfull v37
          try rw [show (max 0 v35.toInt) = v36.toInt from by omega] at D
          try rw [← ev37] at D
          refine x_iret rfl rfl ?_
          exact hQ _ _ J Sm ((congrArg Prod.fst D).symm.trans (show v37.toInt = v37.toInt from by omega)) (congrArg Prod.snd D).symm
        ·
          rw [if_pos (by omega)] at D
          refine x_aloadn (x := 31) rfl rfl ?_
          refine z_getR (N := 13) (b := 78) 11 4 rfl f_11_41 rfl J rfl 3972 ⟨rfl, rfl⟩ rfl ?_
          refine x_iloadn (x := v13) rfl rfl ?_
          refine x_inv (N := m_X7_isMention) (As := [.int v13]) (b := 78) (st := []) (dx9 := 6) (mc := 0) (ms := 0) (host := "") 7 rfl t_X7_isMention ⟨Or.inl q_11_187, i_X7_isMention.1, i_X7_isMention.2⟩ ⟨by decide, rfl⟩ (congrArg Prod.fst (J.1.1 78 (7, 16) rfl)) rfl (by decide) rfl rfl ⟨by decide, by decide⟩ (jC.of rfl k_X7_isMention rfl ?_)
          show jX m_X7_isMention 6 0 0 0 [(0, .ref 78), (1, .int v13)] [] _ 0 0 _
          refine x_iloadn (x := v13) rfl rfl ?_
          refine x_iflt (tgt := 41) rfl rfl (ti_lt rfl jk_0 ⟨fun c38 => ?_, fun c38 => ?_⟩)
          ·
            rw [if_pos (by omega)] at D
            refine x_iconst (v := 0) rfl ki_0 ?_
            refine x_zret rfl rfl (by decide) ?_
            show jX m_X11_soulOn 7 0 0 15 [(0, .ref 31), (1, .int v13), (2, .int a2)] [.int 0] _ 0 0 _
            refine x_ifne (tgt := 20) rfl rfl (ti_ne jk_0 jk_0 (bn_f (by omega) ?_))
            refine x_iconst (v := (-1)) rfl ki_m1 ?_
            refine x_iret rfl rfl ?_
            show jX m_X11_beyond 8 0 0 35 [(0, .ref 31), (1, .int a1), (2, .int a2)] [.int (-1)] _ 0 0 _
            refine x_istoren (lsx9 := [(3, .int (-1)), (0, .ref 31), (1, .int a1), (2, .int a2)]) rfl rfl rfl ?_
            refine x_aloadn (x := 31) rfl rfl ?_
            refine z_getR (N := 13) (b := 98) 11 7 rfl f_11_66 rfl J rfl 3975 ⟨rfl, rfl⟩ rfl ?_
            refine x_aloadn (x := 31) rfl rfl ?_
            refine z_getR (N := 13) (b := 32) 11 0 rfl f_11_10 rfl J rfl 3968 ⟨rfl, rfl⟩ rfl ?_
            refine z_getR (N := 20) (b := 33) 1 0 rfl f_11_126 rfl J rfl 4096 ⟨rfl, rfl⟩ rfl ?_
            refine x_iloadn (x := a1) rfl rfl ?_
            refine x_iconst (v := 1) rfl ki_1 ?_
            refine x_inv (N := m_X8_at) (As := [.int a1, .int 1]) (b := 33) (st := [.ref 98]) (dx9 := 1) (mc := 0) (ms := 0) (host := "") 8 rfl t_X8_at ⟨Or.inl q_11_171, i_X8_at.1, i_X8_at.2⟩ ⟨by decide, rfl⟩ (congrArg Prod.fst (J.1.1 33 (8, 4) rfl)) rfl (by decide) rfl rfl ⟨by decide, by decide⟩ (sf_X8_at_r33_c1d  hD J rfl  (fun v42 h ev42 J S39 X40 X41 => ?_))
            have Sm := jSm_tr rfl Sm S39
            try rw [X40] at D
            try rw [← X41] at D
            show jX m_X11_beyond 8 0 0 52 [(3, .int (-1)), (0, .ref 31), (1, .int a1), (2, .int a2)] [.int v42, .ref 98] _ 0 0 _
            refine x_iloadn (x := a2) rfl rfl ?_
            refine x_inv (N := m_X0_turnTo) (As := [.int v42, .int a2]) (b := 98) (st := []) (dx9 := 7) (mc := 0) (ms := 0) (host := "") 0 rfl t_X0_turnTo ⟨Or.inl q_11_345, i_X0_turnTo.1, i_X0_turnTo.2⟩ ⟨by decide, rfl⟩ (congrArg Prod.fst (J.1.1 98 (0, 16) rfl)) rfl (by decide) rfl rfl ⟨by decide, by decide⟩ (jC.of rfl k_X0_turnTo rfl ?_)
            show jX m_X0_turnTo 7 0 0 0 [(0, .ref 98), (1, .int v42), (2, .int a2)] [] _ 0 0 _
            refine x_aloadn (x := 98) rfl rfl ?_
            refine x_iloadn (x := v42) rfl rfl ?_
            refine x_iloadn (x := a2) rfl rfl ?_
            refine x_inv (N := m_X0_readLaws) (As := [.int v42, .int a2]) (b := 98) (st := []) (dx9 := 3) (mc := 0) (ms := 0) (host := "") 0 rfl t_X0_readLaws ⟨Or.inl q_0_65, i_X0_readLaws.1, i_X0_readLaws.2⟩ ⟨by decide, rfl⟩ (congrArg Prod.fst (J.1.1 98 (0, 16) rfl)) rfl (by decide) rfl rfl ⟨by decide, by decide⟩ (sf_X0_readLaws_r98d (jr_of rfl (by omega)) (jr_of rfl (by omega)) hD J rfl  (fun h J S43 X44 => ?_))
            have Sm := jSm_tr rfl Sm S43
            rw [X44] at D
            show jX m_X0_turnTo 7 0 0 6 [(0, .ref 98), (1, .int v42), (2, .int a2)] [] _ 0 0 _
            refine x_aloadn (x := 98) rfl rfl ?_
            refine x_iloadn (x := v42) rfl rfl ?_
            refine x_iloadn (x := a2) rfl rfl ?_
            refine x_inv (N := m_X0_readHouses) (As := [.int v42, .int a2]) (b := 98) (st := []) (dx9 := 3) (mc := 0) (ms := 0) (host := "") 0 rfl t_X0_readHouses ⟨Or.inl q_0_69, i_X0_readHouses.1, i_X0_readHouses.2⟩ ⟨by decide, rfl⟩ (congrArg Prod.fst (J.1.1 98 (0, 16) rfl)) rfl (by decide) rfl rfl ⟨by decide, by decide⟩ (sf_X0_readHouses_r98d (jr_of rfl (by omega)) (jr_of rfl (by omega)) hD J rfl  (fun h J S45 X46 => ?_))
            have Sm := jSm_tr rfl Sm S45
            rw [X46] at D
            show jX m_X0_turnTo 7 0 0 12 [(0, .ref 98), (1, .int v42), (2, .int a2)] [] _ 0 0 _
            refine x_vret rfl rfl ?_
            show jX m_X11_beyond 8 0 0 56 [(3, .int (-1)), (0, .ref 31), (1, .int a1), (2, .int a2)] [] _ 0 0 _
            refine x_aloadn (x := 31) rfl rfl ?_
            refine z_getR (N := 13) (b := 98) 11 7 rfl f_11_66 rfl J rfl 3975 ⟨rfl, rfl⟩ rfl ?_
            refine x_iconst (v := 3) rfl ki_3 ?_
            refine x_iconst (v := 0) rfl ki_0 ?_
            refine x_iloadn (x := (-1)) rfl rfl ?_
            refine x_inv (N := m_X0_weigh) (As := [.int 3, .int 0, .int (-1)]) (b := 98) (st := []) (dx9 := 6) (mc := 0) (ms := 0) (host := "") 0 rfl t_X0_weigh ⟨Or.inl q_11_359, i_X0_weigh.1, i_X0_weigh.2⟩ ⟨by decide, rfl⟩ (congrArg Prod.fst (J.1.1 98 (0, 16) rfl)) rfl (by decide) rfl rfl ⟨by decide, by decide⟩ (sf_X0_weigh_r98d (jr_of jk_3 (by omega)) (jr_of jk_0 (by omega)) (jr_of jk_m1 (by omega)) hD J rfl  (fun v50 h ev50 J S47 X48 X49 => ?_))
            have Sm := jSm_tr rfl Sm S47
            try rw [jk_3] at X48
            try rw [jk_0] at X48
            try rw [jk_m1] at X48
            try rw [jk_3] at X49
            try rw [jk_0] at X49
            try rw [jk_m1] at X49
            try rw [X48] at D
            try rw [X49] at D
            show jX m_X11_beyond 8 0 0 66 [(3, .int (-1)), (0, .ref 31), (1, .int a1), (2, .int a2)] [.int v50] _ 0 0 _
            refine x_pop rfl rfl ?_
            refine x_aloadn (x := 31) rfl rfl ?_
            refine z_getR (N := 13) (b := 32) 11 0 rfl f_11_10 rfl J rfl 3968 ⟨rfl, rfl⟩ rfl ?_
            refine z_getR (N := 20) (b := 33) 1 0 rfl f_11_126 rfl J rfl 4096 ⟨rfl, rfl⟩ rfl ?_
            refine x_iloadn (x := a1) rfl rfl ?_
            refine x_iconst (v := 4) rfl ki_4 ?_
            refine x_inv (N := m_X8_at) (As := [.int a1, .int 4]) (b := 33) (st := []) (dx9 := 1) (mc := 0) (ms := 0) (host := "") 8 rfl t_X8_at ⟨Or.inl q_11_171, i_X8_at.1, i_X8_at.2⟩ ⟨by decide, rfl⟩ (congrArg Prod.fst (J.1.1 33 (8, 4) rfl)) rfl (by decide) rfl rfl ⟨by decide, by decide⟩ (sf_X8_at_r33_c4d  hD J rfl  (fun v54 h J S51 X52 X53 => ?_))
            have ev54 := jfull v54
            have Sm := jSm_tr rfl Sm S51
            try rw [X52] at D
            try rw [← X53] at D
            show jX m_X11_beyond 8 0 0 79 [(3, .int (-1)), (0, .ref 31), (1, .int a1), (2, .int a2)] [.int v54] _ 0 0 _
            refine z_i2l rfl rfl (fun v55 ev55 => ?_)
            refine x_lconst (v := 0) rfl kl_0 ?_
            refine x_aloadn (x := 31) rfl rfl ?_
            refine z_getR (N := 13) (b := 98) 11 7 rfl f_11_66 rfl J rfl 3975 ⟨rfl, rfl⟩ rfl ?_
            refine z_getLQ (N := 16) 0 14 rfl f_11_362 rfl J rfl (fun v56 qv56 => ?_)
            have ev56 := jfullL v56
            try rw [vrfL qv56] at D
            refine z_lmax rfl q_11_485 (by decide) rfl jkl_0 rfl (fun v57 ev57 => ?_)
            refine z_lsubW rfl rfl rfl (fun v58 ev58 => ?_)
            have fv58 := jfullL v58
            try rw [show v54.toInt = v55.toInt from by omega] at D
            try rw [show (max 0 v56.toInt) = v57.toInt from by omega] at D
            try rw [← ev58] at D
            refine x_lstore (lsx9 := [(4, .long v58), (3, .int (-1)), (0, .ref 31), (1, .int a1), (2, .int a2)]) rfl rfl rfl ?_
            refine x_lconst (v := 0) rfl kl_0 ?_
            refine x_lload (x := v58) rfl rfl ?_
            refine z_lmax rfl q_11_485 (by decide) rfl jkl_0 rfl (fun v59 ev59 => ?_)
            refine z_l2iD rfl rfl (fun v60 ev60 => ?_)
            have fv60 := jfull v60
            try rw [show (max 0 v58.toInt) = v59.toInt from by omega] at D
            try rw [← ev60] at D
            refine x_iret rfl rfl ?_
            exact hQ _ _ J Sm ((congrArg Prod.fst D).symm.trans (show v60.toInt = v60.toInt from by omega)) (congrArg Prod.snd D).symm
          ·
            rw [if_neg (by omega)] at D
            refine x_iloadn (x := v13) rfl rfl ?_
            refine x_sipush (v := 600) rfl ks_600 ?_
            refine x_icge (tgt := 41) rfl rfl (ti_ge rfl jk_600 ⟨fun c61 => ?_, fun c61 => ?_⟩)
            ·
              rw [if_pos (by omega)] at D
              refine x_iconst (v := 0) rfl ki_0 ?_
              refine x_zret rfl rfl (by decide) ?_
              show jX m_X11_soulOn 7 0 0 15 [(0, .ref 31), (1, .int v13), (2, .int a2)] [.int 0] _ 0 0 _
              refine x_ifne (tgt := 20) rfl rfl (ti_ne jk_0 jk_0 (bn_f (by omega) ?_))
              refine x_iconst (v := (-1)) rfl ki_m1 ?_
              refine x_iret rfl rfl ?_
              show jX m_X11_beyond 8 0 0 35 [(0, .ref 31), (1, .int a1), (2, .int a2)] [.int (-1)] _ 0 0 _
              refine x_istoren (lsx9 := [(3, .int (-1)), (0, .ref 31), (1, .int a1), (2, .int a2)]) rfl rfl rfl ?_
              refine x_aloadn (x := 31) rfl rfl ?_
              refine z_getR (N := 13) (b := 98) 11 7 rfl f_11_66 rfl J rfl 3975 ⟨rfl, rfl⟩ rfl ?_
              refine x_aloadn (x := 31) rfl rfl ?_
              refine z_getR (N := 13) (b := 32) 11 0 rfl f_11_10 rfl J rfl 3968 ⟨rfl, rfl⟩ rfl ?_
              refine z_getR (N := 20) (b := 33) 1 0 rfl f_11_126 rfl J rfl 4096 ⟨rfl, rfl⟩ rfl ?_
              refine x_iloadn (x := a1) rfl rfl ?_
              refine x_iconst (v := 1) rfl ki_1 ?_
              refine x_inv (N := m_X8_at) (As := [.int a1, .int 1]) (b := 33) (st := [.ref 98]) (dx9 := 1) (mc := 0) (ms := 0) (host := "") 8 rfl t_X8_at ⟨Or.inl q_11_171, i_X8_at.1, i_X8_at.2⟩ ⟨by decide, rfl⟩ (congrArg Prod.fst (J.1.1 33 (8, 4) rfl)) rfl (by decide) rfl rfl ⟨by decide, by decide⟩ (sf_X8_at_r33_c1d  hD J rfl  (fun v65 h ev65 J S62 X63 X64 => ?_))
              have Sm := jSm_tr rfl Sm S62
              try rw [X63] at D
              try rw [← X64] at D
              show jX m_X11_beyond 8 0 0 52 [(3, .int (-1)), (0, .ref 31), (1, .int a1), (2, .int a2)] [.int v65, .ref 98] _ 0 0 _
              refine x_iloadn (x := a2) rfl rfl ?_
              refine x_inv (N := m_X0_turnTo) (As := [.int v65, .int a2]) (b := 98) (st := []) (dx9 := 7) (mc := 0) (ms := 0) (host := "") 0 rfl t_X0_turnTo ⟨Or.inl q_11_345, i_X0_turnTo.1, i_X0_turnTo.2⟩ ⟨by decide, rfl⟩ (congrArg Prod.fst (J.1.1 98 (0, 16) rfl)) rfl (by decide) rfl rfl ⟨by decide, by decide⟩ (jC.of rfl k_X0_turnTo rfl ?_)
              show jX m_X0_turnTo 7 0 0 0 [(0, .ref 98), (1, .int v65), (2, .int a2)] [] _ 0 0 _
              refine x_aloadn (x := 98) rfl rfl ?_
              refine x_iloadn (x := v65) rfl rfl ?_
              refine x_iloadn (x := a2) rfl rfl ?_
              refine x_inv (N := m_X0_readLaws) (As := [.int v65, .int a2]) (b := 98) (st := []) (dx9 := 3) (mc := 0) (ms := 0) (host := "") 0 rfl t_X0_readLaws ⟨Or.inl q_0_65, i_X0_readLaws.1, i_X0_readLaws.2⟩ ⟨by decide, rfl⟩ (congrArg Prod.fst (J.1.1 98 (0, 16) rfl)) rfl (by decide) rfl rfl ⟨by decide, by decide⟩ (sf_X0_readLaws_r98d (jr_of rfl (by omega)) (jr_of rfl (by omega)) hD J rfl  (fun h J S66 X67 => ?_))
              have Sm := jSm_tr rfl Sm S66
              rw [X67] at D
              show jX m_X0_turnTo 7 0 0 6 [(0, .ref 98), (1, .int v65), (2, .int a2)] [] _ 0 0 _
              refine x_aloadn (x := 98) rfl rfl ?_
              refine x_iloadn (x := v65) rfl rfl ?_
              refine x_iloadn (x := a2) rfl rfl ?_
              refine x_inv (N := m_X0_readHouses) (As := [.int v65, .int a2]) (b := 98) (st := []) (dx9 := 3) (mc := 0) (ms := 0) (host := "") 0 rfl t_X0_readHouses ⟨Or.inl q_0_69, i_X0_readHouses.1, i_X0_readHouses.2⟩ ⟨by decide, rfl⟩ (congrArg Prod.fst (J.1.1 98 (0, 16) rfl)) rfl (by decide) rfl rfl ⟨by decide, by decide⟩ (sf_X0_readHouses_r98d (jr_of rfl (by omega)) (jr_of rfl (by omega)) hD J rfl  (fun h J S68 X69 => ?_))
              have Sm := jSm_tr rfl Sm S68
              rw [X69] at D
              show jX m_X0_turnTo 7 0 0 12 [(0, .ref 98), (1, .int v65), (2, .int a2)] [] _ 0 0 _
              refine x_vret rfl rfl ?_
              show jX m_X11_beyond 8 0 0 56 [(3, .int (-1)), (0, .ref 31), (1, .int a1), (2, .int a2)] [] _ 0 0 _
              refine x_aloadn (x := 31) rfl rfl ?_
              refine z_getR (N := 13) (b := 98) 11 7 rfl f_11_66 rfl J rfl 3975 ⟨rfl, rfl⟩ rfl ?_
              refine x_iconst (v := 3) rfl ki_3 ?_
              refine x_iconst (v := 0) rfl ki_0 ?_
              refine x_iloadn (x := (-1)) rfl rfl ?_
              refine x_inv (N := m_X0_weigh) (As := [.int 3, .int 0, .int (-1)]) (b := 98) (st := []) (dx9 := 6) (mc := 0) (ms := 0) (host := "") 0 rfl t_X0_weigh ⟨Or.inl q_11_359, i_X0_weigh.1, i_X0_weigh.2⟩ ⟨by decide, rfl⟩ (congrArg Prod.fst (J.1.1 98 (0, 16) rfl)) rfl (by decide) rfl rfl ⟨by decide, by decide⟩ (sf_X0_weigh_r98d (jr_of jk_3 (by omega)) (jr_of jk_0 (by omega)) (jr_of jk_m1 (by omega)) hD J rfl  (fun v73 h ev73 J S70 X71 X72 => ?_))
              have Sm := jSm_tr rfl Sm S70
              try rw [jk_3] at X71
              try rw [jk_0] at X71
              try rw [jk_m1] at X71
              try rw [jk_3] at X72
              try rw [jk_0] at X72
              try rw [jk_m1] at X72
              try rw [X71] at D
              try rw [X72] at D
              show jX m_X11_beyond 8 0 0 66 [(3, .int (-1)), (0, .ref 31), (1, .int a1), (2, .int a2)] [.int v73] _ 0 0 _
              refine x_pop rfl rfl ?_
              refine x_aloadn (x := 31) rfl rfl ?_
              refine z_getR (N := 13) (b := 32) 11 0 rfl f_11_10 rfl J rfl 3968 ⟨rfl, rfl⟩ rfl ?_
              refine z_getR (N := 20) (b := 33) 1 0 rfl f_11_126 rfl J rfl 4096 ⟨rfl, rfl⟩ rfl ?_
              refine x_iloadn (x := a1) rfl rfl ?_
              refine x_iconst (v := 4) rfl ki_4 ?_
              refine x_inv (N := m_X8_at) (As := [.int a1, .int 4]) (b := 33) (st := []) (dx9 := 1) (mc := 0) (ms := 0) (host := "") 8 rfl t_X8_at ⟨Or.inl q_11_171, i_X8_at.1, i_X8_at.2⟩ ⟨by decide, rfl⟩ (congrArg Prod.fst (J.1.1 33 (8, 4) rfl)) rfl (by decide) rfl rfl ⟨by decide, by decide⟩ (sf_X8_at_r33_c4d  hD J rfl  (fun v77 h J S74 X75 X76 => ?_))
              have ev77 := jfull v77
              have Sm := jSm_tr rfl Sm S74
              try rw [X75] at D
              try rw [← X76] at D
              show jX m_X11_beyond 8 0 0 79 [(3, .int (-1)), (0, .ref 31), (1, .int a1), (2, .int a2)] [.int v77] _ 0 0 _
              refine z_i2l rfl rfl (fun v78 ev78 => ?_)
              refine x_lconst (v := 0) rfl kl_0 ?_
              refine x_aloadn (x := 31) rfl rfl ?_
              refine z_getR (N := 13) (b := 98) 11 7 rfl f_11_66 rfl J rfl 3975 ⟨rfl, rfl⟩ rfl ?_
              refine z_getLQ (N := 16) 0 14 rfl f_11_362 rfl J rfl (fun v79 qv79 => ?_)
              have ev79 := jfullL v79
              try rw [vrfL qv79] at D
              refine z_lmax rfl q_11_485 (by decide) rfl jkl_0 rfl (fun v80 ev80 => ?_)
              refine z_lsubW rfl rfl rfl (fun v81 ev81 => ?_)
              have fv81 := jfullL v81
              try rw [show v77.toInt = v78.toInt from by omega] at D
              try rw [show (max 0 v79.toInt) = v80.toInt from by omega] at D
              try rw [← ev81] at D
              refine x_lstore (lsx9 := [(4, .long v81), (3, .int (-1)), (0, .ref 31), (1, .int a1), (2, .int a2)]) rfl rfl rfl ?_
              refine x_lconst (v := 0) rfl kl_0 ?_
              refine x_lload (x := v81) rfl rfl ?_
              refine z_lmax rfl q_11_485 (by decide) rfl jkl_0 rfl (fun v82 ev82 => ?_)
              refine z_l2iD rfl rfl (fun v83 ev83 => ?_)
              have fv83 := jfull v83
              try rw [show (max 0 v81.toInt) = v82.toInt from by omega] at D
              try rw [← ev83] at D
              refine x_iret rfl rfl ?_
              exact hQ _ _ J Sm ((congrArg Prod.fst D).symm.trans (show v83.toInt = v83.toInt from by omega)) (congrArg Prod.snd D).symm
            ·
              rw [if_neg (by omega)] at D
              refine x_iloadn (x := v13) rfl rfl ?_
              refine x_iconst (v := 3) rfl ki_3 ?_
              refine z_idiv rfl rfl jk_3 (by omega) (by omega) (fun v84 ev84 => ?_)
              refine x_aloadn (x := 78) rfl rfl ?_
              refine z_getR (N := 16) (b := 32) 7 0 rfl f_7_55 rfl J rfl 9984 ⟨rfl, rfl⟩ rfl ?_
              refine z_getR (N := 20) (b := 33) 1 0 rfl f_7_63 rfl J rfl 4096 ⟨rfl, rfl⟩ rfl ?_
              refine z_getI (N := 4) 8 3 rfl f_7_85 rfl J rfl sg_33_3_4_1_0_1 (fun v85 qv85 ev85 => ?_)
              try rw [vrf qv85] at D
              refine x_icge (tgt := 41) rfl rfl (ti_ge rfl rfl ⟨fun c86 => ?_, fun c86 => ?_⟩)
              ·
                rw [if_pos (by omega)] at D
                refine x_iconst (v := 0) rfl ki_0 ?_
                refine x_zret rfl rfl (by decide) ?_
                show jX m_X11_soulOn 7 0 0 15 [(0, .ref 31), (1, .int v13), (2, .int a2)] [.int 0] _ 0 0 _
                refine x_ifne (tgt := 20) rfl rfl (ti_ne jk_0 jk_0 (bn_f (by omega) ?_))
                refine x_iconst (v := (-1)) rfl ki_m1 ?_
                refine x_iret rfl rfl ?_
                show jX m_X11_beyond 8 0 0 35 [(0, .ref 31), (1, .int a1), (2, .int a2)] [.int (-1)] _ 0 0 _
                refine x_istoren (lsx9 := [(3, .int (-1)), (0, .ref 31), (1, .int a1), (2, .int a2)]) rfl rfl rfl ?_
                refine x_aloadn (x := 31) rfl rfl ?_
                refine z_getR (N := 13) (b := 98) 11 7 rfl f_11_66 rfl J rfl 3975 ⟨rfl, rfl⟩ rfl ?_
                refine x_aloadn (x := 31) rfl rfl ?_
                refine z_getR (N := 13) (b := 32) 11 0 rfl f_11_10 rfl J rfl 3968 ⟨rfl, rfl⟩ rfl ?_
                refine z_getR (N := 20) (b := 33) 1 0 rfl f_11_126 rfl J rfl 4096 ⟨rfl, rfl⟩ rfl ?_
                refine x_iloadn (x := a1) rfl rfl ?_
                refine x_iconst (v := 1) rfl ki_1 ?_
                refine x_inv (N := m_X8_at) (As := [.int a1, .int 1]) (b := 33) (st := [.ref 98]) (dx9 := 1) (mc := 0) (ms := 0) (host := "") 8 rfl t_X8_at ⟨Or.inl q_11_171, i_X8_at.1, i_X8_at.2⟩ ⟨by decide, rfl⟩ (congrArg Prod.fst (J.1.1 33 (8, 4) rfl)) rfl (by decide) rfl rfl ⟨by decide, by decide⟩ (sf_X8_at_r33_c1d  hD J rfl  (fun v90 h ev90 J S87 X88 X89 => ?_))
                have Sm := jSm_tr rfl Sm S87
                try rw [X88] at D
                try rw [← X89] at D
                show jX m_X11_beyond 8 0 0 52 [(3, .int (-1)), (0, .ref 31), (1, .int a1), (2, .int a2)] [.int v90, .ref 98] _ 0 0 _
                refine x_iloadn (x := a2) rfl rfl ?_
                refine x_inv (N := m_X0_turnTo) (As := [.int v90, .int a2]) (b := 98) (st := []) (dx9 := 7) (mc := 0) (ms := 0) (host := "") 0 rfl t_X0_turnTo ⟨Or.inl q_11_345, i_X0_turnTo.1, i_X0_turnTo.2⟩ ⟨by decide, rfl⟩ (congrArg Prod.fst (J.1.1 98 (0, 16) rfl)) rfl (by decide) rfl rfl ⟨by decide, by decide⟩ (jC.of rfl k_X0_turnTo rfl ?_)
                show jX m_X0_turnTo 7 0 0 0 [(0, .ref 98), (1, .int v90), (2, .int a2)] [] _ 0 0 _
                refine x_aloadn (x := 98) rfl rfl ?_
                refine x_iloadn (x := v90) rfl rfl ?_
                refine x_iloadn (x := a2) rfl rfl ?_
                refine x_inv (N := m_X0_readLaws) (As := [.int v90, .int a2]) (b := 98) (st := []) (dx9 := 3) (mc := 0) (ms := 0) (host := "") 0 rfl t_X0_readLaws ⟨Or.inl q_0_65, i_X0_readLaws.1, i_X0_readLaws.2⟩ ⟨by decide, rfl⟩ (congrArg Prod.fst (J.1.1 98 (0, 16) rfl)) rfl (by decide) rfl rfl ⟨by decide, by decide⟩ (sf_X0_readLaws_r98d (jr_of rfl (by omega)) (jr_of rfl (by omega)) hD J rfl  (fun h J S91 X92 => ?_))
                have Sm := jSm_tr rfl Sm S91
                rw [X92] at D
                show jX m_X0_turnTo 7 0 0 6 [(0, .ref 98), (1, .int v90), (2, .int a2)] [] _ 0 0 _
                refine x_aloadn (x := 98) rfl rfl ?_
                refine x_iloadn (x := v90) rfl rfl ?_
                refine x_iloadn (x := a2) rfl rfl ?_
                refine x_inv (N := m_X0_readHouses) (As := [.int v90, .int a2]) (b := 98) (st := []) (dx9 := 3) (mc := 0) (ms := 0) (host := "") 0 rfl t_X0_readHouses ⟨Or.inl q_0_69, i_X0_readHouses.1, i_X0_readHouses.2⟩ ⟨by decide, rfl⟩ (congrArg Prod.fst (J.1.1 98 (0, 16) rfl)) rfl (by decide) rfl rfl ⟨by decide, by decide⟩ (sf_X0_readHouses_r98d (jr_of rfl (by omega)) (jr_of rfl (by omega)) hD J rfl  (fun h J S93 X94 => ?_))
                have Sm := jSm_tr rfl Sm S93
                rw [X94] at D
                show jX m_X0_turnTo 7 0 0 12 [(0, .ref 98), (1, .int v90), (2, .int a2)] [] _ 0 0 _
                refine x_vret rfl rfl ?_
                show jX m_X11_beyond 8 0 0 56 [(3, .int (-1)), (0, .ref 31), (1, .int a1), (2, .int a2)] [] _ 0 0 _
                refine x_aloadn (x := 31) rfl rfl ?_
                refine z_getR (N := 13) (b := 98) 11 7 rfl f_11_66 rfl J rfl 3975 ⟨rfl, rfl⟩ rfl ?_
                refine x_iconst (v := 3) rfl ki_3 ?_
                refine x_iconst (v := 0) rfl ki_0 ?_
                refine x_iloadn (x := (-1)) rfl rfl ?_
                refine x_inv (N := m_X0_weigh) (As := [.int 3, .int 0, .int (-1)]) (b := 98) (st := []) (dx9 := 6) (mc := 0) (ms := 0) (host := "") 0 rfl t_X0_weigh ⟨Or.inl q_11_359, i_X0_weigh.1, i_X0_weigh.2⟩ ⟨by decide, rfl⟩ (congrArg Prod.fst (J.1.1 98 (0, 16) rfl)) rfl (by decide) rfl rfl ⟨by decide, by decide⟩ (sf_X0_weigh_r98d (jr_of jk_3 (by omega)) (jr_of jk_0 (by omega)) (jr_of jk_m1 (by omega)) hD J rfl  (fun v98 h ev98 J S95 X96 X97 => ?_))
                have Sm := jSm_tr rfl Sm S95
                try rw [jk_3] at X96
                try rw [jk_0] at X96
                try rw [jk_m1] at X96
                try rw [jk_3] at X97
                try rw [jk_0] at X97
                try rw [jk_m1] at X97
                try rw [X96] at D
                try rw [X97] at D
                show jX m_X11_beyond 8 0 0 66 [(3, .int (-1)), (0, .ref 31), (1, .int a1), (2, .int a2)] [.int v98] _ 0 0 _
                refine x_pop rfl rfl ?_
                refine x_aloadn (x := 31) rfl rfl ?_
                refine z_getR (N := 13) (b := 32) 11 0 rfl f_11_10 rfl J rfl 3968 ⟨rfl, rfl⟩ rfl ?_
                refine z_getR (N := 20) (b := 33) 1 0 rfl f_11_126 rfl J rfl 4096 ⟨rfl, rfl⟩ rfl ?_
                refine x_iloadn (x := a1) rfl rfl ?_
                refine x_iconst (v := 4) rfl ki_4 ?_
                refine x_inv (N := m_X8_at) (As := [.int a1, .int 4]) (b := 33) (st := []) (dx9 := 1) (mc := 0) (ms := 0) (host := "") 8 rfl t_X8_at ⟨Or.inl q_11_171, i_X8_at.1, i_X8_at.2⟩ ⟨by decide, rfl⟩ (congrArg Prod.fst (J.1.1 33 (8, 4) rfl)) rfl (by decide) rfl rfl ⟨by decide, by decide⟩ (sf_X8_at_r33_c4d  hD J rfl  (fun v102 h J S99 X100 X101 => ?_))
                have ev102 := jfull v102
                have Sm := jSm_tr rfl Sm S99
                try rw [X100] at D
                try rw [← X101] at D
                show jX m_X11_beyond 8 0 0 79 [(3, .int (-1)), (0, .ref 31), (1, .int a1), (2, .int a2)] [.int v102] _ 0 0 _
                refine z_i2l rfl rfl (fun v103 ev103 => ?_)
                refine x_lconst (v := 0) rfl kl_0 ?_
                refine x_aloadn (x := 31) rfl rfl ?_
                refine z_getR (N := 13) (b := 98) 11 7 rfl f_11_66 rfl J rfl 3975 ⟨rfl, rfl⟩ rfl ?_
                refine z_getLQ (N := 16) 0 14 rfl f_11_362 rfl J rfl (fun v104 qv104 => ?_)
                have ev104 := jfullL v104
                try rw [vrfL qv104] at D
                refine z_lmax rfl q_11_485 (by decide) rfl jkl_0 rfl (fun v105 ev105 => ?_)
                refine z_lsubW rfl rfl rfl (fun v106 ev106 => ?_)
                have fv106 := jfullL v106
                try rw [show v102.toInt = v103.toInt from by omega] at D
                try rw [show (max 0 v104.toInt) = v105.toInt from by omega] at D
                try rw [← ev106] at D
                refine x_lstore (lsx9 := [(4, .long v106), (3, .int (-1)), (0, .ref 31), (1, .int a1), (2, .int a2)]) rfl rfl rfl ?_
                refine x_lconst (v := 0) rfl kl_0 ?_
                refine x_lload (x := v106) rfl rfl ?_
                refine z_lmax rfl q_11_485 (by decide) rfl jkl_0 rfl (fun v107 ev107 => ?_)
                refine z_l2iD rfl rfl (fun v108 ev108 => ?_)
                have fv108 := jfull v108
                try rw [show (max 0 v106.toInt) = v107.toInt from by omega] at D
                try rw [← ev108] at D
                refine x_iret rfl rfl ?_
                exact hQ _ _ J Sm ((congrArg Prod.fst D).symm.trans (show v108.toInt = v108.toInt from by omega)) (congrArg Prod.snd D).symm
              ·
                rw [if_neg (by omega)] at D
                refine x_aloadn (x := 78) rfl rfl ?_
                refine z_getR (N := 16) (b := 79) 7 7 rfl f_7_27 rfl J rfl 9991 ⟨rfl, rfl⟩ rfl ?_
                refine x_iloadn (x := v13) rfl rfl ?_
                refine z_iald (N := 600) rfl J rfl sg_79_0_600_1_0_1 rfl (by omega) (fun v109 qv109 ev109 => ?_)
                try rw [vrd qv109 (show v13.toInt = v13.toInt from by omega)] at D
                refine x_iconst (v := (-1)) rfl ki_m1 ?_
                refine x_iceq (tgt := 41) rfl rfl (ti_eq rfl jk_m1 ⟨fun c110 => ?_, fun c110 => ?_⟩)
                ·
                  rw [if_pos (by omega)] at D
                  refine x_iconst (v := 0) rfl ki_0 ?_
                  refine x_zret rfl rfl (by decide) ?_
                  show jX m_X11_soulOn 7 0 0 15 [(0, .ref 31), (1, .int v13), (2, .int a2)] [.int 0] _ 0 0 _
                  refine x_ifne (tgt := 20) rfl rfl (ti_ne jk_0 jk_0 (bn_f (by omega) ?_))
                  refine x_iconst (v := (-1)) rfl ki_m1 ?_
                  refine x_iret rfl rfl ?_
                  show jX m_X11_beyond 8 0 0 35 [(0, .ref 31), (1, .int a1), (2, .int a2)] [.int (-1)] _ 0 0 _
                  refine x_istoren (lsx9 := [(3, .int (-1)), (0, .ref 31), (1, .int a1), (2, .int a2)]) rfl rfl rfl ?_
                  refine x_aloadn (x := 31) rfl rfl ?_
                  refine z_getR (N := 13) (b := 98) 11 7 rfl f_11_66 rfl J rfl 3975 ⟨rfl, rfl⟩ rfl ?_
                  refine x_aloadn (x := 31) rfl rfl ?_
                  refine z_getR (N := 13) (b := 32) 11 0 rfl f_11_10 rfl J rfl 3968 ⟨rfl, rfl⟩ rfl ?_
                  refine z_getR (N := 20) (b := 33) 1 0 rfl f_11_126 rfl J rfl 4096 ⟨rfl, rfl⟩ rfl ?_
                  refine x_iloadn (x := a1) rfl rfl ?_
                  refine x_iconst (v := 1) rfl ki_1 ?_
                  refine x_inv (N := m_X8_at) (As := [.int a1, .int 1]) (b := 33) (st := [.ref 98]) (dx9 := 1) (mc := 0) (ms := 0) (host := "") 8 rfl t_X8_at ⟨Or.inl q_11_171, i_X8_at.1, i_X8_at.2⟩ ⟨by decide, rfl⟩ (congrArg Prod.fst (J.1.1 33 (8, 4) rfl)) rfl (by decide) rfl rfl ⟨by decide, by decide⟩ (sf_X8_at_r33_c1d  hD J rfl  (fun v114 h ev114 J S111 X112 X113 => ?_))
                  have Sm := jSm_tr rfl Sm S111
                  try rw [X112] at D
                  try rw [← X113] at D
                  show jX m_X11_beyond 8 0 0 52 [(3, .int (-1)), (0, .ref 31), (1, .int a1), (2, .int a2)] [.int v114, .ref 98] _ 0 0 _
                  refine x_iloadn (x := a2) rfl rfl ?_
                  refine x_inv (N := m_X0_turnTo) (As := [.int v114, .int a2]) (b := 98) (st := []) (dx9 := 7) (mc := 0) (ms := 0) (host := "") 0 rfl t_X0_turnTo ⟨Or.inl q_11_345, i_X0_turnTo.1, i_X0_turnTo.2⟩ ⟨by decide, rfl⟩ (congrArg Prod.fst (J.1.1 98 (0, 16) rfl)) rfl (by decide) rfl rfl ⟨by decide, by decide⟩ (jC.of rfl k_X0_turnTo rfl ?_)
                  show jX m_X0_turnTo 7 0 0 0 [(0, .ref 98), (1, .int v114), (2, .int a2)] [] _ 0 0 _
                  refine x_aloadn (x := 98) rfl rfl ?_
                  refine x_iloadn (x := v114) rfl rfl ?_
                  refine x_iloadn (x := a2) rfl rfl ?_
                  refine x_inv (N := m_X0_readLaws) (As := [.int v114, .int a2]) (b := 98) (st := []) (dx9 := 3) (mc := 0) (ms := 0) (host := "") 0 rfl t_X0_readLaws ⟨Or.inl q_0_65, i_X0_readLaws.1, i_X0_readLaws.2⟩ ⟨by decide, rfl⟩ (congrArg Prod.fst (J.1.1 98 (0, 16) rfl)) rfl (by decide) rfl rfl ⟨by decide, by decide⟩ (sf_X0_readLaws_r98d (jr_of rfl (by omega)) (jr_of rfl (by omega)) hD J rfl  (fun h J S115 X116 => ?_))
                  have Sm := jSm_tr rfl Sm S115
                  rw [X116] at D
                  show jX m_X0_turnTo 7 0 0 6 [(0, .ref 98), (1, .int v114), (2, .int a2)] [] _ 0 0 _
                  refine x_aloadn (x := 98) rfl rfl ?_
                  refine x_iloadn (x := v114) rfl rfl ?_
                  refine x_iloadn (x := a2) rfl rfl ?_
                  refine x_inv (N := m_X0_readHouses) (As := [.int v114, .int a2]) (b := 98) (st := []) (dx9 := 3) (mc := 0) (ms := 0) (host := "") 0 rfl t_X0_readHouses ⟨Or.inl q_0_69, i_X0_readHouses.1, i_X0_readHouses.2⟩ ⟨by decide, rfl⟩ (congrArg Prod.fst (J.1.1 98 (0, 16) rfl)) rfl (by decide) rfl rfl ⟨by decide, by decide⟩ (sf_X0_readHouses_r98d (jr_of rfl (by omega)) (jr_of rfl (by omega)) hD J rfl  (fun h J S117 X118 => ?_))
                  have Sm := jSm_tr rfl Sm S117
                  rw [X118] at D
                  show jX m_X0_turnTo 7 0 0 12 [(0, .ref 98), (1, .int v114), (2, .int a2)] [] _ 0 0 _
                  refine x_vret rfl rfl ?_
                  show jX m_X11_beyond 8 0 0 56 [(3, .int (-1)), (0, .ref 31), (1, .int a1), (2, .int a2)] [] _ 0 0 _
                  refine x_aloadn (x := 31) rfl rfl ?_
                  refine z_getR (N := 13) (b := 98) 11 7 rfl f_11_66 rfl J rfl 3975 ⟨rfl, rfl⟩ rfl ?_
                  refine x_iconst (v := 3) rfl ki_3 ?_
                  refine x_iconst (v := 0) rfl ki_0 ?_
                  refine x_iloadn (x := (-1)) rfl rfl ?_
                  refine x_inv (N := m_X0_weigh) (As := [.int 3, .int 0, .int (-1)]) (b := 98) (st := []) (dx9 := 6) (mc := 0) (ms := 0) (host := "") 0 rfl t_X0_weigh ⟨Or.inl q_11_359, i_X0_weigh.1, i_X0_weigh.2⟩ ⟨by decide, rfl⟩ (congrArg Prod.fst (J.1.1 98 (0, 16) rfl)) rfl (by decide) rfl rfl ⟨by decide, by decide⟩ (sf_X0_weigh_r98d (jr_of jk_3 (by omega)) (jr_of jk_0 (by omega)) (jr_of jk_m1 (by omega)) hD J rfl  (fun v122 h ev122 J S119 X120 X121 => ?_))
                  have Sm := jSm_tr rfl Sm S119
                  try rw [jk_3] at X120
                  try rw [jk_0] at X120
                  try rw [jk_m1] at X120
                  try rw [jk_3] at X121
                  try rw [jk_0] at X121
                  try rw [jk_m1] at X121
                  try rw [X120] at D
                  try rw [X121] at D
                  show jX m_X11_beyond 8 0 0 66 [(3, .int (-1)), (0, .ref 31), (1, .int a1), (2, .int a2)] [.int v122] _ 0 0 _
                  refine x_pop rfl rfl ?_
                  refine x_aloadn (x := 31) rfl rfl ?_
                  refine z_getR (N := 13) (b := 32) 11 0 rfl f_11_10 rfl J rfl 3968 ⟨rfl, rfl⟩ rfl ?_
                  refine z_getR (N := 20) (b := 33) 1 0 rfl f_11_126 rfl J rfl 4096 ⟨rfl, rfl⟩ rfl ?_
                  refine x_iloadn (x := a1) rfl rfl ?_
                  refine x_iconst (v := 4) rfl ki_4 ?_
                  refine x_inv (N := m_X8_at) (As := [.int a1, .int 4]) (b := 33) (st := []) (dx9 := 1) (mc := 0) (ms := 0) (host := "") 8 rfl t_X8_at ⟨Or.inl q_11_171, i_X8_at.1, i_X8_at.2⟩ ⟨by decide, rfl⟩ (congrArg Prod.fst (J.1.1 33 (8, 4) rfl)) rfl (by decide) rfl rfl ⟨by decide, by decide⟩ (sf_X8_at_r33_c4d  hD J rfl  (fun v126 h J S123 X124 X125 => ?_))
                  have ev126 := jfull v126
                  have Sm := jSm_tr rfl Sm S123
                  try rw [X124] at D
                  try rw [← X125] at D
                  show jX m_X11_beyond 8 0 0 79 [(3, .int (-1)), (0, .ref 31), (1, .int a1), (2, .int a2)] [.int v126] _ 0 0 _
                  refine z_i2l rfl rfl (fun v127 ev127 => ?_)
                  refine x_lconst (v := 0) rfl kl_0 ?_
                  refine x_aloadn (x := 31) rfl rfl ?_
                  refine z_getR (N := 13) (b := 98) 11 7 rfl f_11_66 rfl J rfl 3975 ⟨rfl, rfl⟩ rfl ?_
                  refine z_getLQ (N := 16) 0 14 rfl f_11_362 rfl J rfl (fun v128 qv128 => ?_)
                  have ev128 := jfullL v128
                  try rw [vrfL qv128] at D
                  refine z_lmax rfl q_11_485 (by decide) rfl jkl_0 rfl (fun v129 ev129 => ?_)
                  refine z_lsubW rfl rfl rfl (fun v130 ev130 => ?_)
                  have fv130 := jfullL v130
                  try rw [show v126.toInt = v127.toInt from by omega] at D
                  try rw [show (max 0 v128.toInt) = v129.toInt from by omega] at D
                  try rw [← ev130] at D
                  refine x_lstore (lsx9 := [(4, .long v130), (3, .int (-1)), (0, .ref 31), (1, .int a1), (2, .int a2)]) rfl rfl rfl ?_
                  refine x_lconst (v := 0) rfl kl_0 ?_
                  refine x_lload (x := v130) rfl rfl ?_
                  refine z_lmax rfl q_11_485 (by decide) rfl jkl_0 rfl (fun v131 ev131 => ?_)
                  refine z_l2iD rfl rfl (fun v132 ev132 => ?_)
                  have fv132 := jfull v132
                  try rw [show (max 0 v130.toInt) = v131.toInt from by omega] at D
                  try rw [← ev132] at D
                  refine x_iret rfl rfl ?_
                  exact hQ _ _ J Sm ((congrArg Prod.fst D).symm.trans (show v132.toInt = v132.toInt from by omega)) (congrArg Prod.snd D).symm
                ·
                  rw [if_neg (by omega)] at D
                  refine x_iconst (v := 1) rfl ki_1 ?_
                  refine x_goto (tgt := 42) rfl rfl ?_
                  refine x_zret rfl rfl (by decide) ?_
                  show jX m_X11_soulOn 7 0 0 15 [(0, .ref 31), (1, .int v13), (2, .int a2)] [.int 1] _ 0 0 _
                  refine x_ifne (tgt := 20) rfl rfl (ti_ne jk_1 jk_0 (bn_t (by omega) ?_))
                  refine x_aloadn (x := 31) rfl rfl ?_
                  refine z_getR (N := 13) (b := 78) 11 4 rfl f_11_41 rfl J rfl 3972 ⟨rfl, rfl⟩ rfl ?_
                  refine x_iloadn (x := a2) rfl rfl ?_
                  refine x_inv (N := m_X7_asKnown) (As := [.int a2]) (b := 78) (st := []) (dx9 := 6) (mc := 0) (ms := 0) (host := "") 7 rfl t_X7_asKnown ⟨Or.inl q_11_240, i_X7_asKnown.1, i_X7_asKnown.2⟩ ⟨by decide, rfl⟩ (congrArg Prod.fst (J.1.1 78 (7, 16) rfl)) rfl (by decide) rfl rfl ⟨by decide, by decide⟩ (sf_X7_asKnown_r78d (jr_of rfl (by omega)) hD J rfl  (fun h J S133 X134 => ?_))
                  have Sm := jSm_tr rfl Sm S133
                  rw [X134] at D
                  show jX m_X11_soulOn 7 0 0 28 [(0, .ref 31), (1, .int v13), (2, .int a2)] [] _ 0 0 _
                  refine x_aloadn (x := 31) rfl rfl ?_
                  refine z_getR (N := 13) (b := 78) 11 4 rfl f_11_41 rfl J rfl 3972 ⟨rfl, rfl⟩ rfl ?_
                  refine z_getR (N := 16) (b := 82) 7 10 rfl f_11_537 rfl J rfl 9994 ⟨rfl, rfl⟩ rfl ?_
                  refine x_iloadn (x := v13) rfl rfl ?_
                  refine z_iald (N := 600) rfl J rfl sg_82_0_600_1_0_1 rfl (by omega) (fun v135 qv135 ev135 => ?_)
                  try rw [vrd qv135 (show v13.toInt = v13.toInt from by omega)] at D
                  refine x_iret rfl rfl ?_
                  show jX m_X11_beyond 8 0 0 35 [(0, .ref 31), (1, .int a1), (2, .int a2)] [.int v135] _ 0 0 _
                  refine x_istoren (lsx9 := [(3, .int v135), (0, .ref 31), (1, .int a1), (2, .int a2)]) rfl rfl rfl ?_
                  refine x_aloadn (x := 31) rfl rfl ?_
                  refine z_getR (N := 13) (b := 98) 11 7 rfl f_11_66 rfl J rfl 3975 ⟨rfl, rfl⟩ rfl ?_
                  refine x_aloadn (x := 31) rfl rfl ?_
                  refine z_getR (N := 13) (b := 32) 11 0 rfl f_11_10 rfl J rfl 3968 ⟨rfl, rfl⟩ rfl ?_
                  refine z_getR (N := 20) (b := 33) 1 0 rfl f_11_126 rfl J rfl 4096 ⟨rfl, rfl⟩ rfl ?_
                  refine x_iloadn (x := a1) rfl rfl ?_
                  refine x_iconst (v := 1) rfl ki_1 ?_
                  refine x_inv (N := m_X8_at) (As := [.int a1, .int 1]) (b := 33) (st := [.ref 98]) (dx9 := 1) (mc := 0) (ms := 0) (host := "") 8 rfl t_X8_at ⟨Or.inl q_11_171, i_X8_at.1, i_X8_at.2⟩ ⟨by decide, rfl⟩ (congrArg Prod.fst (J.1.1 33 (8, 4) rfl)) rfl (by decide) rfl rfl ⟨by decide, by decide⟩ (sf_X8_at_r33_c1d  hD J rfl  (fun v139 h ev139 J S136 X137 X138 => ?_))
                  have Sm := jSm_tr rfl Sm S136
                  try rw [X137] at D
                  try rw [← X138] at D
                  show jX m_X11_beyond 8 0 0 52 [(3, .int v135), (0, .ref 31), (1, .int a1), (2, .int a2)] [.int v139, .ref 98] _ 0 0 _
                  refine x_iloadn (x := a2) rfl rfl ?_
                  refine x_inv (N := m_X0_turnTo) (As := [.int v139, .int a2]) (b := 98) (st := []) (dx9 := 7) (mc := 0) (ms := 0) (host := "") 0 rfl t_X0_turnTo ⟨Or.inl q_11_345, i_X0_turnTo.1, i_X0_turnTo.2⟩ ⟨by decide, rfl⟩ (congrArg Prod.fst (J.1.1 98 (0, 16) rfl)) rfl (by decide) rfl rfl ⟨by decide, by decide⟩ (jC.of rfl k_X0_turnTo rfl ?_)
                  show jX m_X0_turnTo 7 0 0 0 [(0, .ref 98), (1, .int v139), (2, .int a2)] [] _ 0 0 _
                  refine x_aloadn (x := 98) rfl rfl ?_
                  refine x_iloadn (x := v139) rfl rfl ?_
                  refine x_iloadn (x := a2) rfl rfl ?_
                  refine x_inv (N := m_X0_readLaws) (As := [.int v139, .int a2]) (b := 98) (st := []) (dx9 := 3) (mc := 0) (ms := 0) (host := "") 0 rfl t_X0_readLaws ⟨Or.inl q_0_65, i_X0_readLaws.1, i_X0_readLaws.2⟩ ⟨by decide, rfl⟩ (congrArg Prod.fst (J.1.1 98 (0, 16) rfl)) rfl (by decide) rfl rfl ⟨by decide, by decide⟩ (sf_X0_readLaws_r98d (jr_of rfl (by omega)) (jr_of rfl (by omega)) hD J rfl  (fun h J S140 X141 => ?_))
                  have Sm := jSm_tr rfl Sm S140
                  rw [X141] at D
                  show jX m_X0_turnTo 7 0 0 6 [(0, .ref 98), (1, .int v139), (2, .int a2)] [] _ 0 0 _
                  refine x_aloadn (x := 98) rfl rfl ?_
                  refine x_iloadn (x := v139) rfl rfl ?_
                  refine x_iloadn (x := a2) rfl rfl ?_
                  refine x_inv (N := m_X0_readHouses) (As := [.int v139, .int a2]) (b := 98) (st := []) (dx9 := 3) (mc := 0) (ms := 0) (host := "") 0 rfl t_X0_readHouses ⟨Or.inl q_0_69, i_X0_readHouses.1, i_X0_readHouses.2⟩ ⟨by decide, rfl⟩ (congrArg Prod.fst (J.1.1 98 (0, 16) rfl)) rfl (by decide) rfl rfl ⟨by decide, by decide⟩ (sf_X0_readHouses_r98d (jr_of rfl (by omega)) (jr_of rfl (by omega)) hD J rfl  (fun h J S142 X143 => ?_))
                  have Sm := jSm_tr rfl Sm S142
                  rw [X143] at D
                  show jX m_X0_turnTo 7 0 0 12 [(0, .ref 98), (1, .int v139), (2, .int a2)] [] _ 0 0 _
                  refine x_vret rfl rfl ?_
                  show jX m_X11_beyond 8 0 0 56 [(3, .int v135), (0, .ref 31), (1, .int a1), (2, .int a2)] [] _ 0 0 _
                  refine x_aloadn (x := 31) rfl rfl ?_
                  refine z_getR (N := 13) (b := 98) 11 7 rfl f_11_66 rfl J rfl 3975 ⟨rfl, rfl⟩ rfl ?_
                  refine x_iconst (v := 3) rfl ki_3 ?_
                  refine x_iconst (v := 0) rfl ki_0 ?_
                  refine x_iloadn (x := v135) rfl rfl ?_
                  refine x_inv (N := m_X0_weigh) (As := [.int 3, .int 0, .int v135]) (b := 98) (st := []) (dx9 := 6) (mc := 0) (ms := 0) (host := "") 0 rfl t_X0_weigh ⟨Or.inl q_11_359, i_X0_weigh.1, i_X0_weigh.2⟩ ⟨by decide, rfl⟩ (congrArg Prod.fst (J.1.1 98 (0, 16) rfl)) rfl (by decide) rfl rfl ⟨by decide, by decide⟩ (sf_X0_weigh_r98d (jr_of jk_3 (by omega)) (jr_of jk_0 (by omega)) (jr_of rfl (by omega)) hD J rfl  (fun v147 h ev147 J S144 X145 X146 => ?_))
                  have Sm := jSm_tr rfl Sm S144
                  try rw [jk_3] at X145
                  try rw [jk_0] at X145
                  try rw [jk_3] at X146
                  try rw [jk_0] at X146
                  try rw [X145] at D
                  try rw [X146] at D
                  show jX m_X11_beyond 8 0 0 66 [(3, .int v135), (0, .ref 31), (1, .int a1), (2, .int a2)] [.int v147] _ 0 0 _
                  refine x_pop rfl rfl ?_
                  refine x_aloadn (x := 31) rfl rfl ?_
                  refine z_getR (N := 13) (b := 32) 11 0 rfl f_11_10 rfl J rfl 3968 ⟨rfl, rfl⟩ rfl ?_
                  refine z_getR (N := 20) (b := 33) 1 0 rfl f_11_126 rfl J rfl 4096 ⟨rfl, rfl⟩ rfl ?_
                  refine x_iloadn (x := a1) rfl rfl ?_
                  refine x_iconst (v := 4) rfl ki_4 ?_
                  refine x_inv (N := m_X8_at) (As := [.int a1, .int 4]) (b := 33) (st := []) (dx9 := 1) (mc := 0) (ms := 0) (host := "") 8 rfl t_X8_at ⟨Or.inl q_11_171, i_X8_at.1, i_X8_at.2⟩ ⟨by decide, rfl⟩ (congrArg Prod.fst (J.1.1 33 (8, 4) rfl)) rfl (by decide) rfl rfl ⟨by decide, by decide⟩ (sf_X8_at_r33_c4d  hD J rfl  (fun v151 h J S148 X149 X150 => ?_))
                  have ev151 := jfull v151
                  have Sm := jSm_tr rfl Sm S148
                  try rw [X149] at D
                  try rw [← X150] at D
                  show jX m_X11_beyond 8 0 0 79 [(3, .int v135), (0, .ref 31), (1, .int a1), (2, .int a2)] [.int v151] _ 0 0 _
                  refine z_i2l rfl rfl (fun v152 ev152 => ?_)
                  refine x_lconst (v := 0) rfl kl_0 ?_
                  refine x_aloadn (x := 31) rfl rfl ?_
                  refine z_getR (N := 13) (b := 98) 11 7 rfl f_11_66 rfl J rfl 3975 ⟨rfl, rfl⟩ rfl ?_
                  refine z_getLQ (N := 16) 0 14 rfl f_11_362 rfl J rfl (fun v153 qv153 => ?_)
                  have ev153 := jfullL v153
                  try rw [vrfL qv153] at D
                  refine z_lmax rfl q_11_485 (by decide) rfl jkl_0 rfl (fun v154 ev154 => ?_)
                  refine z_lsubW rfl rfl rfl (fun v155 ev155 => ?_)
                  have fv155 := jfullL v155
                  try rw [show v151.toInt = v152.toInt from by omega] at D
                  try rw [show (max 0 v153.toInt) = v154.toInt from by omega] at D
                  try rw [← ev155] at D
                  refine x_lstore (lsx9 := [(4, .long v155), (3, .int v135), (0, .ref 31), (1, .int a1), (2, .int a2)]) rfl rfl rfl ?_
                  refine x_lconst (v := 0) rfl kl_0 ?_
                  refine x_lload (x := v155) rfl rfl ?_
                  refine z_lmax rfl q_11_485 (by decide) rfl jkl_0 rfl (fun v156 ev156 => ?_)
                  refine z_l2iD rfl rfl (fun v157 ev157 => ?_)
                  have fv157 := jfull v157
                  try rw [show (max 0 v155.toInt) = v156.toInt from by omega] at D
                  try rw [← ev157] at D
                  refine x_iret rfl rfl ?_
                  exact hQ _ _ J Sm ((congrArg Prod.fst D).symm.trans (show v157.toInt = v157.toInt from by omega)) (congrArg Prod.snd D).symm
      ·
        rw [if_neg (by omega)] at D
        exact jX.sub jsb_n (ct_X11_beyond_r31d_25 hD hQ  h J Sm D)
def fp_X11_clear_r31d : jFp := [(87, 3, 4), (87, 13, 14)]
set_option maxRecDepth 100000 in
set_option maxHeartbeats 4000000 in
theorem sf_X11_clear_r31d {Dy : jH → Prop} {h : jH} {Q : Option Value → jH → Prop} {dr : (Int × jW)} (hD : jDk Dy) (J : jJ jSgX Dy h) (D : d_X11_clear_r31d (vw h) = dr) (hQ : ∀ (v : Int32) hx9, 0 ≤ v.toInt ∧ v.toInt ≤ 9 → jJ jSgX Dy hx9 → jSm fp_X11_clear_r31d h hx9 → dr.1 = v.toInt → dr.2 = vw hx9 → Q (some (.int v)) hx9) : jC m_X11_clear 2 0 0 [.ref 31] h Q := by
  refine jC.of rfl k_X11_clear rfl ?_
  have Sm := jSm_rf fp_X11_clear_r31d h
  show jX m_X11_clear 2 0 0 0 [(0, .ref 31)] [] _ 0 0 _
  unfold d_X11_clear_r31d at D
  refine x_aloadn (x := 31) rfl rfl ?_
  refine z_getR (N := 13) (b := 87) 11 5 rfl f_11_50 rfl J rfl 3973 ⟨rfl, rfl⟩ rfl ?_
  refine z_getI (N := 14) 3 3 rfl f_11_273 rfl J rfl sg_87_3_4_1_0_1 (fun v1 qv1 ev1 => ?_)
  try rw [vrf qv1] at D
  refine x_istoren (lsx9 := [(1, .int v1), (0, .ref 31)]) rfl rfl rfl ?_
  refine x_aloadn (x := 31) rfl rfl ?_
  refine z_getR (N := 13) (b := 87) 11 5 rfl f_11_50 rfl J rfl 3973 ⟨rfl, rfl⟩ rfl ?_
  refine x_inv (N := m_X3_empty) (As := []) (b := 87) (st := []) (dx9 := 1) (mc := 0) (ms := 0) (host := "") 3 rfl t_X3_empty ⟨Or.inl q_11_279, i_X3_empty.1, i_X3_empty.2⟩ ⟨by decide, rfl⟩ (congrArg Prod.fst (J.1.1 87 (3, 14) rfl)) rfl (by decide) rfl rfl ⟨by decide, by decide⟩ (jC.of rfl k_X3_empty rfl ?_)
  show jX m_X3_empty 1 0 0 0 [(0, .ref 87)] [] _ 0 0 _
  refine x_aloadn (x := 87) rfl rfl ?_
  refine x_iconst (v := 0) rfl ki_0 ?_
  refine z_putI (N := 14) (w := 0) 3 3 rfl f_3_15 rfl (jfin_no TX3 RX3 14 rfl rfl) hD J Sm rfl rfl jk_0 (pw_87_3 (by omega)) rfl (fun h w2 J Sm => ?_)
  rw [vwf w2 (show 0 = (0 : Int32).toInt from by have := jk_0; omega)] at D
  refine x_aloadn (x := 87) rfl rfl ?_
  refine x_iconst (v := 0) rfl ki_0 ?_
  refine z_putI (N := 14) (w := 0) 3 13 rfl f_3_46 rfl (jfin_no TX3 RX3 14 rfl rfl) hD J Sm rfl rfl jk_0 (pw_87_13 trivial) rfl (fun h w3 J Sm => ?_)
  rw [vwf w3 (show 0 = (0 : Int32).toInt from by have := jk_0; omega)] at D
  refine x_vret rfl rfl ?_
  show jX m_X11_clear 2 0 0 15 [(1, .int v1), (0, .ref 31)] [] _ 0 0 _
  refine x_iloadn (x := v1) rfl rfl ?_
  refine x_iret rfl rfl ?_
  exact hQ _ _ (jr_of rfl (by omega)) J Sm ((congrArg Prod.fst D).symm.trans (show v1.toInt = v1.toInt from by omega)) (congrArg Prod.snd D).symm
def fp_X11_lastClosed_r31d : jFp := []
set_option maxRecDepth 100000 in
set_option maxHeartbeats 4000000 in
theorem ct_X11_lastClosed_r31d_13 {Dy : jH → Prop} {h0 : jH} {Q : Option Value → jH → Prop} {dr : Int} (hD : jDk Dy) (hQ : ∀ (v : Int32) hx9, (-1) ≤ v.toInt ∧ v.toInt ≤ 399 → jJ jSgX Dy hx9 → jSm fp_X11_lastClosed_r31d h0 hx9 → dr = v.toInt → vw hx9 = vw h0 → Q (some (.int v)) hx9) : ∀ r : Nat, ∀ (l1 : Int32) (l2 : Int32) (h : jH), l2.toInt - (-1) < (r : Int) → 0 ≤ l1.toInt ∧ l1.toInt ≤ 3 → (-1) ≤ l2.toInt ∧ l2.toInt ≤ 39 → jJ jSgX Dy h → jSm fp_X11_lastClosed_r31d h0 h → d_X11_lastClosed_r31d_13 r l1.toInt l2.toInt (vw h) = dr → vw h = vw h0 → jX m_X11_lastClosed 2 0 0 13 [(0, .ref 31), (1, .int l1), (2, .int l2)] [] h 0 0 Q := by
  intro r
  induction r with
  | zero =>
    intro l1 l2 h hm y0 y1   J Sm D EV
    exfalso
    omega
  | succ r ih =>
    intro l1 l2 h hm y0 y1   J Sm D EV
    rw [d_X11_lastClosed_r31d_13.eq_2] at D
    refine x_iloadn (x := l2) rfl rfl ?_
    refine x_iflt (tgt := 52) rfl rfl (ti_lt rfl jk_0 ⟨fun c1 => ?_, fun c1 => ?_⟩)
    ·
      rw [if_pos (by omega)] at D
      refine x_iconst (v := (-1)) rfl ki_m1 ?_
      refine x_iret rfl rfl ?_
      exact hQ _ _ (jr_of jk_m1 (by omega)) J Sm (D.symm.trans (show (-1) = ((-1) : Int32).toInt from by have := jk_m1; omega)) EV
    ·
      rw [if_neg (by omega)] at D
      refine x_aloadn (x := 31) rfl rfl ?_
      refine z_getR (N := 13) (b := 32) 11 0 rfl f_11_10 rfl J rfl 3968 ⟨rfl, rfl⟩ rfl ?_
      refine z_getR (N := 20) (b := 59) 1 13 rfl f_11_482 rfl J rfl 4109 ⟨rfl, rfl⟩ rfl ?_
      refine x_iloadn (x := l2) rfl rfl ?_
      refine x_iconst (v := 2) rfl ki_2 ?_
      refine x_inv (N := m_X8_at) (As := [.int l2, .int 2]) (b := 59) (st := []) (dx9 := 1) (mc := 0) (ms := 0) (host := "") 8 rfl t_X8_at ⟨Or.inl q_11_171, i_X8_at.1, i_X8_at.2⟩ ⟨by decide, rfl⟩ (congrArg Prod.fst (J.1.1 59 (8, 4) rfl)) rfl (by decide) rfl rfl ⟨by decide, by decide⟩ (sf_X8_at_r59_c2d (jr_of rfl (by omega)) hD J rfl  (fun v5 h ev5 J S2 X3 X4 => ?_))
      have Sm := jSm_tr rfl Sm S2
      try rw [X3] at D
      try rw [← X4] at D
      have EV := X4.trans EV
      show jX m_X11_lastClosed 2 0 0 29 [(0, .ref 31), (1, .int l1), (2, .int l2)] [.int v5] _ 0 0 _
      refine x_iloadn (x := l1) rfl rfl ?_
      refine x_icne (tgt := 46) rfl rfl (ti_ne rfl rfl ⟨fun c6 => ?_, fun c6 => ?_⟩)
      ·
        rw [if_neg (by omega)] at D
        refine z_iinc (x := l2) (lsx9 := fun v7 => [(2, .int v7), (0, .ref 31), (1, .int l1)]) rfl rfl rfl jko_m1 (by omega) rfl (fun _ => rfl) (fun v7 ev7 => ?_)
        refine x_goto (tgt := 13) rfl rfl ?_
        try rw [show (l2.toInt + (-1)) = v7.toInt from by omega] at D
        exact jX.sub (jsb_c rfl (jsb_c rfl (jsb_c rfl jsb_n))) (ih l1 v7 h (by omega) (jr_of rfl (by omega)) (jr_of rfl (by omega)) J Sm D EV)
      ·
        rw [if_pos (by omega)] at D
        refine x_aloadn (x := 31) rfl rfl ?_
        refine z_getR (N := 13) (b := 32) 11 0 rfl f_11_10 rfl J rfl 3968 ⟨rfl, rfl⟩ rfl ?_
        refine z_getR (N := 20) (b := 59) 1 13 rfl f_11_482 rfl J rfl 4109 ⟨rfl, rfl⟩ rfl ?_
        refine x_iloadn (x := l2) rfl rfl ?_
        refine x_iconst (v := 1) rfl ki_1 ?_
        refine x_inv (N := m_X8_at) (As := [.int l2, .int 1]) (b := 59) (st := []) (dx9 := 1) (mc := 0) (ms := 0) (host := "") 8 rfl t_X8_at ⟨Or.inl q_11_171, i_X8_at.1, i_X8_at.2⟩ ⟨by decide, rfl⟩ (congrArg Prod.fst (J.1.1 59 (8, 4) rfl)) rfl (by decide) rfl rfl ⟨by decide, by decide⟩ (sf_X8_at_r59_c1d (jr_of rfl (by omega)) hD J rfl  (fun v11 h ev11 J S8 X9 X10 => ?_))
        have Sm := jSm_tr rfl Sm S8
        try rw [X9] at D
        try rw [← X10] at D
        have EV := X10.trans EV
        show jX m_X11_lastClosed 2 0 0 45 [(0, .ref 31), (1, .int l1), (2, .int l2)] [.int v11] _ 0 0 _
        refine x_iret rfl rfl ?_
        exact hQ _ _ (jr_of rfl (by omega)) J Sm (D.symm.trans (show v11.toInt = v11.toInt from by omega)) EV
set_option maxRecDepth 100000 in
set_option maxHeartbeats 4000000 in
theorem sf_X11_lastClosed_r31d {Dy : jH → Prop} {h : jH} {Q : Option Value → jH → Prop} {dr : Int} {a1 : Int32} (y1 : 0 ≤ a1.toInt ∧ a1.toInt ≤ 3) (hD : jDk Dy) (J : jJ jSgX Dy h) (D : d_X11_lastClosed_r31d a1.toInt (vw h) = dr) (hQ : ∀ (v : Int32) hx9, (-1) ≤ v.toInt ∧ v.toInt ≤ 399 → jJ jSgX Dy hx9 → jSm fp_X11_lastClosed_r31d h hx9 → dr = v.toInt → vw hx9 = vw h → Q (some (.int v)) hx9) : jC m_X11_lastClosed 2 0 0 [.ref 31, .int a1] h Q := by
  refine jC.of rfl k_X11_lastClosed rfl ?_
  have Sm := jSm_rf fp_X11_lastClosed_r31d h
  show jX m_X11_lastClosed 2 0 0 0 [(0, .ref 31), (1, .int a1)] [] _ 0 0 _
  unfold d_X11_lastClosed_r31d at D
  have EV : vw h = vw h := rfl
  refine x_aloadn (x := 31) rfl rfl ?_
  refine z_getR (N := 13) (b := 32) 11 0 rfl f_11_10 rfl J rfl 3968 ⟨rfl, rfl⟩ rfl ?_
  refine z_getR (N := 20) (b := 59) 1 13 rfl f_11_482 rfl J rfl 4109 ⟨rfl, rfl⟩ rfl ?_
  refine z_getI (N := 4) 8 3 rfl f_11_142 rfl J rfl sg_59_3_4_1_0_1 (fun v1 qv1 ev1 => ?_)
  try rw [vrf qv1] at D
  refine x_iconst (v := 1) rfl ki_1 ?_
  refine z_isub rfl rfl jk_1 (by omega) (fun v2 ev2 => ?_)
  refine x_istoren (lsx9 := [(2, .int v2), (0, .ref 31), (1, .int a1)]) rfl rfl rfl ?_
  try rw [show (v1.toInt - 1) = v2.toInt from by omega] at D
  exact jX.sub (jsb_c rfl (jsb_c rfl (jsb_c rfl jsb_n))) (ct_X11_lastClosed_r31d_13 hD hQ  41 a1 v2 h (by omega) (jr_of rfl (by omega)) (jr_of rfl (by omega)) J Sm D EV)
def fp_X8_put_r59_c0d : jFp := [(60, 0, 160)]
set_option maxRecDepth 100000 in
set_option maxHeartbeats 4000000 in
theorem ct_X8_put_r59_c0d_38 {Dy : jH → Prop} {h0 : jH} {Q : Option Value → jH → Prop} {dr : jW} (hD : jDk Dy) (hQ : ∀ hx9, jJ jSgX Dy hx9 → jSm fp_X8_put_r59_c0d h0 hx9 → dr = vw hx9 → Q none hx9) : ∀ (h : jH), jJ jSgX Dy h → jSm fp_X8_put_r59_c0d h0 h → d_X8_put_r59_c0d_38  (vw h) = dr → jX m_X8_put 1 0 0 38 [] [] h 0 0 Q := by
  intro  h    J Sm D
  unfold d_X8_put_r59_c0d_38 at D
  refine x_vret rfl rfl ?_
  exact hQ _ J Sm D.symm
set_option maxRecDepth 100000 in
set_option maxHeartbeats 4000000 in
theorem sf_X8_put_r59_c0d {Dy : jH → Prop} {h : jH} {Q : Option Value → jH → Prop} {dr : jW} {a1 : Int32} {a3 : Int32} (y1 : 0 ≤ a1.toInt ∧ a1.toInt ≤ 39) (y3 : 0 ≤ a3.toInt ∧ a3.toInt ≤ 146399) (hD : jDk Dy) (J : jJ jSgX Dy h) (D : d_X8_put_r59_c0d a1.toInt a3.toInt (vw h) = dr) (hQ : ∀ hx9, jJ jSgX Dy hx9 → jSm fp_X8_put_r59_c0d h hx9 → dr = vw hx9 → Q none hx9) : jC m_X8_put 1 0 0 [.ref 59, .int a1, .int 0, .int a3] h Q := by
  refine jC.of rfl k_X8_put rfl ?_
  have Sm := jSm_rf fp_X8_put_r59_c0d h
  show jX m_X8_put 1 0 0 0 [(0, .ref 59), (1, .int a1), (2, .int 0), (3, .int a3)] [] _ 0 0 _
  unfold d_X8_put_r59_c0d at D
  refine x_iloadn (x := a1) rfl rfl ?_
  refine x_iflt (tgt := 38) rfl rfl (ti_lt rfl jk_0 (br_f (by omega) ?_))
  refine x_iloadn (x := a1) rfl rfl ?_
  refine x_aloadn (x := 59) rfl rfl ?_
  refine z_getI (N := 4) 8 3 rfl f_8_7 rfl J rfl sg_59_3_4_1_0_1 (fun v1 qv1 ev1 => ?_)
  try rw [vrf qv1] at D
  refine x_icge (tgt := 38) rfl rfl (ti_ge rfl rfl ⟨fun c2 => ?_, fun c2 => ?_⟩)
  ·
    rw [if_pos (by omega)] at D
    exact jX.sub jsb_n (ct_X8_put_r59_c0d_38 hD hQ  h J Sm D)
  ·
    rw [if_neg (by omega)] at D
    refine x_iloadn (x := 0) rfl rfl ?_
    refine x_iflt (tgt := 38) rfl rfl (ti_lt jk_0 jk_0 (br_f (by omega) ?_))
    refine x_iloadn (x := 0) rfl rfl ?_
    refine x_aloadn (x := 59) rfl rfl ?_
    refine z_getC (N := 4) (v := 4) 8 0 rfl f_8_19 rfl J rfl sg_59_0_1_1_0_1 jk_4 ?_
    refine x_icge (tgt := 38) rfl rfl (ti_ge jk_0 jk_4 (br_f (by omega) ?_))
    refine x_aloadn (x := 59) rfl rfl ?_
    refine z_getR (N := 4) (b := 60) 8 2 rfl f_8_25 rfl J rfl 7554 ⟨rfl, rfl⟩ rfl ?_
    refine x_iloadn (x := a1) rfl rfl ?_
    refine x_aloadn (x := 59) rfl rfl ?_
    refine z_getC (N := 4) (v := 4) 8 0 rfl f_8_19 rfl J rfl sg_59_0_1_1_0_1 jk_4 ?_
    refine z_imul rfl rfl jk_4 (by omega) (fun v3 ev3 => ?_)
    refine x_iloadn (x := 0) rfl rfl ?_
    refine z_iadd rfl rfl jk_0 (by omega) (fun v4 ev4 => ?_)
    refine x_iloadn (x := a3) rfl rfl ?_
    refine z_iast (N := 160) (l := 0) (u := 160) (w := a3.toInt) rfl hD J Sm rfl rfl rfl (by omega) rfl (wr_60 (fun q1 q2 q3 q4 => by omega) (fun q1 q2 q3 q4 => by omega) (fun q1 q2 q3 q4 => by omega)) rfl (fun h w5 J Sm => ?_)
    rw [vww w5 (show ((a1.toInt * 4) + 0) = v4.toInt from by omega) (show a3.toInt = a3.toInt from by omega)] at D
    exact jX.sub jsb_n (ct_X8_put_r59_c0d_38 hD hQ  h J Sm D)
def fp_X8_put_r59_c1d : jFp := [(60, 0, 160)]
set_option maxRecDepth 100000 in
set_option maxHeartbeats 4000000 in
theorem ct_X8_put_r59_c1d_38 {Dy : jH → Prop} {h0 : jH} {Q : Option Value → jH → Prop} {dr : jW} (hD : jDk Dy) (hQ : ∀ hx9, jJ jSgX Dy hx9 → jSm fp_X8_put_r59_c1d h0 hx9 → dr = vw hx9 → Q none hx9) : ∀ (h : jH), jJ jSgX Dy h → jSm fp_X8_put_r59_c1d h0 h → d_X8_put_r59_c1d_38  (vw h) = dr → jX m_X8_put 1 0 0 38 [] [] h 0 0 Q := by
  intro  h    J Sm D
  unfold d_X8_put_r59_c1d_38 at D
  refine x_vret rfl rfl ?_
  exact hQ _ J Sm D.symm
set_option maxRecDepth 100000 in
set_option maxHeartbeats 4000000 in
theorem sf_X8_put_r59_c1d {Dy : jH → Prop} {h : jH} {Q : Option Value → jH → Prop} {dr : jW} {a1 : Int32} {a3 : Int32} (y1 : 0 ≤ a1.toInt ∧ a1.toInt ≤ 39) (y3 : 0 ≤ a3.toInt ∧ a3.toInt ≤ 399) (hD : jDk Dy) (J : jJ jSgX Dy h) (D : d_X8_put_r59_c1d a1.toInt a3.toInt (vw h) = dr) (hQ : ∀ hx9, jJ jSgX Dy hx9 → jSm fp_X8_put_r59_c1d h hx9 → dr = vw hx9 → Q none hx9) : jC m_X8_put 1 0 0 [.ref 59, .int a1, .int 1, .int a3] h Q := by
  refine jC.of rfl k_X8_put rfl ?_
  have Sm := jSm_rf fp_X8_put_r59_c1d h
  show jX m_X8_put 1 0 0 0 [(0, .ref 59), (1, .int a1), (2, .int 1), (3, .int a3)] [] _ 0 0 _
  unfold d_X8_put_r59_c1d at D
  refine x_iloadn (x := a1) rfl rfl ?_
  refine x_iflt (tgt := 38) rfl rfl (ti_lt rfl jk_0 (br_f (by omega) ?_))
  refine x_iloadn (x := a1) rfl rfl ?_
  refine x_aloadn (x := 59) rfl rfl ?_
  refine z_getI (N := 4) 8 3 rfl f_8_7 rfl J rfl sg_59_3_4_1_0_1 (fun v1 qv1 ev1 => ?_)
  try rw [vrf qv1] at D
  refine x_icge (tgt := 38) rfl rfl (ti_ge rfl rfl ⟨fun c2 => ?_, fun c2 => ?_⟩)
  ·
    rw [if_pos (by omega)] at D
    exact jX.sub jsb_n (ct_X8_put_r59_c1d_38 hD hQ  h J Sm D)
  ·
    rw [if_neg (by omega)] at D
    refine x_iloadn (x := 1) rfl rfl ?_
    refine x_iflt (tgt := 38) rfl rfl (ti_lt jk_1 jk_0 (br_f (by omega) ?_))
    refine x_iloadn (x := 1) rfl rfl ?_
    refine x_aloadn (x := 59) rfl rfl ?_
    refine z_getC (N := 4) (v := 4) 8 0 rfl f_8_19 rfl J rfl sg_59_0_1_1_0_1 jk_4 ?_
    refine x_icge (tgt := 38) rfl rfl (ti_ge jk_1 jk_4 (br_f (by omega) ?_))
    refine x_aloadn (x := 59) rfl rfl ?_
    refine z_getR (N := 4) (b := 60) 8 2 rfl f_8_25 rfl J rfl 7554 ⟨rfl, rfl⟩ rfl ?_
    refine x_iloadn (x := a1) rfl rfl ?_
    refine x_aloadn (x := 59) rfl rfl ?_
    refine z_getC (N := 4) (v := 4) 8 0 rfl f_8_19 rfl J rfl sg_59_0_1_1_0_1 jk_4 ?_
    refine z_imul rfl rfl jk_4 (by omega) (fun v3 ev3 => ?_)
    refine x_iloadn (x := 1) rfl rfl ?_
    refine z_iadd rfl rfl jk_1 (by omega) (fun v4 ev4 => ?_)
    refine x_iloadn (x := a3) rfl rfl ?_
    refine z_iast (N := 160) (l := 0) (u := 160) (w := a3.toInt) rfl hD J Sm rfl rfl rfl (by omega) rfl (wr_60 (fun q1 q2 q3 q4 => by omega) (fun q1 q2 q3 q4 => by omega) (fun q1 q2 q3 q4 => by omega)) rfl (fun h w5 J Sm => ?_)
    rw [vww w5 (show ((a1.toInt * 4) + 1) = v4.toInt from by omega) (show a3.toInt = a3.toInt from by omega)] at D
    exact jX.sub jsb_n (ct_X8_put_r59_c1d_38 hD hQ  h J Sm D)
def fp_X8_put_r59_c2d : jFp := [(60, 0, 160)]
set_option maxRecDepth 100000 in
set_option maxHeartbeats 4000000 in
theorem ct_X8_put_r59_c2d_38 {Dy : jH → Prop} {h0 : jH} {Q : Option Value → jH → Prop} {dr : jW} (hD : jDk Dy) (hQ : ∀ hx9, jJ jSgX Dy hx9 → jSm fp_X8_put_r59_c2d h0 hx9 → dr = vw hx9 → Q none hx9) : ∀ (h : jH), jJ jSgX Dy h → jSm fp_X8_put_r59_c2d h0 h → d_X8_put_r59_c2d_38  (vw h) = dr → jX m_X8_put 1 0 0 38 [] [] h 0 0 Q := by
  intro  h    J Sm D
  unfold d_X8_put_r59_c2d_38 at D
  refine x_vret rfl rfl ?_
  exact hQ _ J Sm D.symm
set_option maxRecDepth 100000 in
set_option maxHeartbeats 4000000 in
theorem sf_X8_put_r59_c2d {Dy : jH → Prop} {h : jH} {Q : Option Value → jH → Prop} {dr : jW} {a1 : Int32} {a3 : Int32} (y1 : 0 ≤ a1.toInt ∧ a1.toInt ≤ 39) (y3 : 0 ≤ a3.toInt ∧ a3.toInt ≤ 3) (hD : jDk Dy) (J : jJ jSgX Dy h) (D : d_X8_put_r59_c2d a1.toInt a3.toInt (vw h) = dr) (hQ : ∀ hx9, jJ jSgX Dy hx9 → jSm fp_X8_put_r59_c2d h hx9 → dr = vw hx9 → Q none hx9) : jC m_X8_put 1 0 0 [.ref 59, .int a1, .int 2, .int a3] h Q := by
  refine jC.of rfl k_X8_put rfl ?_
  have Sm := jSm_rf fp_X8_put_r59_c2d h
  show jX m_X8_put 1 0 0 0 [(0, .ref 59), (1, .int a1), (2, .int 2), (3, .int a3)] [] _ 0 0 _
  unfold d_X8_put_r59_c2d at D
  refine x_iloadn (x := a1) rfl rfl ?_
  refine x_iflt (tgt := 38) rfl rfl (ti_lt rfl jk_0 (br_f (by omega) ?_))
  refine x_iloadn (x := a1) rfl rfl ?_
  refine x_aloadn (x := 59) rfl rfl ?_
  refine z_getI (N := 4) 8 3 rfl f_8_7 rfl J rfl sg_59_3_4_1_0_1 (fun v1 qv1 ev1 => ?_)
  try rw [vrf qv1] at D
  refine x_icge (tgt := 38) rfl rfl (ti_ge rfl rfl ⟨fun c2 => ?_, fun c2 => ?_⟩)
  ·
    rw [if_pos (by omega)] at D
    exact jX.sub jsb_n (ct_X8_put_r59_c2d_38 hD hQ  h J Sm D)
  ·
    rw [if_neg (by omega)] at D
    refine x_iloadn (x := 2) rfl rfl ?_
    refine x_iflt (tgt := 38) rfl rfl (ti_lt jk_2 jk_0 (br_f (by omega) ?_))
    refine x_iloadn (x := 2) rfl rfl ?_
    refine x_aloadn (x := 59) rfl rfl ?_
    refine z_getC (N := 4) (v := 4) 8 0 rfl f_8_19 rfl J rfl sg_59_0_1_1_0_1 jk_4 ?_
    refine x_icge (tgt := 38) rfl rfl (ti_ge jk_2 jk_4 (br_f (by omega) ?_))
    refine x_aloadn (x := 59) rfl rfl ?_
    refine z_getR (N := 4) (b := 60) 8 2 rfl f_8_25 rfl J rfl 7554 ⟨rfl, rfl⟩ rfl ?_
    refine x_iloadn (x := a1) rfl rfl ?_
    refine x_aloadn (x := 59) rfl rfl ?_
    refine z_getC (N := 4) (v := 4) 8 0 rfl f_8_19 rfl J rfl sg_59_0_1_1_0_1 jk_4 ?_
    refine z_imul rfl rfl jk_4 (by omega) (fun v3 ev3 => ?_)
    refine x_iloadn (x := 2) rfl rfl ?_
    refine z_iadd rfl rfl jk_2 (by omega) (fun v4 ev4 => ?_)
    refine x_iloadn (x := a3) rfl rfl ?_
    refine z_iast (N := 160) (l := 0) (u := 160) (w := a3.toInt) rfl hD J Sm rfl rfl rfl (by omega) rfl (wr_60 (fun q1 q2 q3 q4 => by omega) (fun q1 q2 q3 q4 => by omega) (fun q1 q2 q3 q4 => by omega)) rfl (fun h w5 J Sm => ?_)
    rw [vww w5 (show ((a1.toInt * 4) + 2) = v4.toInt from by omega) (show a3.toInt = a3.toInt from by omega)] at D
    exact jX.sub jsb_n (ct_X8_put_r59_c2d_38 hD hQ  h J Sm D)
def fp_X8_put_r59_c3d : jFp := [(60, 0, 160)]
set_option maxRecDepth 100000 in
set_option maxHeartbeats 4000000 in
theorem ct_X8_put_r59_c3d_38 {Dy : jH → Prop} {h0 : jH} {Q : Option Value → jH → Prop} {dr : jW} (hD : jDk Dy) (hQ : ∀ hx9, jJ jSgX Dy hx9 → jSm fp_X8_put_r59_c3d h0 hx9 → dr = vw hx9 → Q none hx9) : ∀ (h : jH), jJ jSgX Dy h → jSm fp_X8_put_r59_c3d h0 h → d_X8_put_r59_c3d_38  (vw h) = dr → jX m_X8_put 1 0 0 38 [] [] h 0 0 Q := by
  intro  h    J Sm D
  unfold d_X8_put_r59_c3d_38 at D
  refine x_vret rfl rfl ?_
  exact hQ _ J Sm D.symm
set_option maxRecDepth 100000 in
set_option maxHeartbeats 4000000 in
theorem sf_X8_put_r59_c3d {Dy : jH → Prop} {h : jH} {Q : Option Value → jH → Prop} {dr : jW} {a1 : Int32} {a3 : Int32} (y1 : 0 ≤ a1.toInt ∧ a1.toInt ≤ 39) (hD : jDk Dy) (J : jJ jSgX Dy h) (D : d_X8_put_r59_c3d a1.toInt a3.toInt (vw h) = dr) (hQ : ∀ hx9, jJ jSgX Dy hx9 → jSm fp_X8_put_r59_c3d h hx9 → dr = vw hx9 → Q none hx9) : jC m_X8_put 1 0 0 [.ref 59, .int a1, .int 3, .int a3] h Q := by
  refine jC.of rfl k_X8_put rfl ?_
  have Sm := jSm_rf fp_X8_put_r59_c3d h
  have ea3 := jfull a3
  show jX m_X8_put 1 0 0 0 [(0, .ref 59), (1, .int a1), (2, .int 3), (3, .int a3)] [] _ 0 0 _
  unfold d_X8_put_r59_c3d at D
  refine x_iloadn (x := a1) rfl rfl ?_
  refine x_iflt (tgt := 38) rfl rfl (ti_lt rfl jk_0 (br_f (by omega) ?_))
  refine x_iloadn (x := a1) rfl rfl ?_
  refine x_aloadn (x := 59) rfl rfl ?_
  refine z_getI (N := 4) 8 3 rfl f_8_7 rfl J rfl sg_59_3_4_1_0_1 (fun v1 qv1 ev1 => ?_)
  try rw [vrf qv1] at D
  refine x_icge (tgt := 38) rfl rfl (ti_ge rfl rfl ⟨fun c2 => ?_, fun c2 => ?_⟩)
  ·
    rw [if_pos (by omega)] at D
    exact jX.sub jsb_n (ct_X8_put_r59_c3d_38 hD hQ  h J Sm D)
  ·
    rw [if_neg (by omega)] at D
    refine x_iloadn (x := 3) rfl rfl ?_
    refine x_iflt (tgt := 38) rfl rfl (ti_lt jk_3 jk_0 (br_f (by omega) ?_))
    refine x_iloadn (x := 3) rfl rfl ?_
    refine x_aloadn (x := 59) rfl rfl ?_
    refine z_getC (N := 4) (v := 4) 8 0 rfl f_8_19 rfl J rfl sg_59_0_1_1_0_1 jk_4 ?_
    refine x_icge (tgt := 38) rfl rfl (ti_ge jk_3 jk_4 (br_f (by omega) ?_))
    refine x_aloadn (x := 59) rfl rfl ?_
    refine z_getR (N := 4) (b := 60) 8 2 rfl f_8_25 rfl J rfl 7554 ⟨rfl, rfl⟩ rfl ?_
    refine x_iloadn (x := a1) rfl rfl ?_
    refine x_aloadn (x := 59) rfl rfl ?_
    refine z_getC (N := 4) (v := 4) 8 0 rfl f_8_19 rfl J rfl sg_59_0_1_1_0_1 jk_4 ?_
    refine z_imul rfl rfl jk_4 (by omega) (fun v3 ev3 => ?_)
    refine x_iloadn (x := 3) rfl rfl ?_
    refine z_iadd rfl rfl jk_3 (by omega) (fun v4 ev4 => ?_)
    refine x_iloadn (x := a3) rfl rfl ?_
    refine z_iast (N := 160) (l := 0) (u := 160) (w := a3.toInt) rfl hD J Sm rfl rfl rfl (by omega) rfl (wr_60 (fun q1 q2 q3 q4 => by omega) (fun q1 q2 q3 q4 => by omega) (fun q1 q2 q3 q4 => by omega)) rfl (fun h w5 J Sm => ?_)
    rw [vww w5 (show ((a1.toInt * 4) + 3) = v4.toInt from by omega) (show a3.toInt = a3.toInt from by omega)] at D
    exact jX.sub jsb_n (ct_X8_put_r59_c3d_38 hD hQ  h J Sm D)
def fp_X8_put_r59_c4d : jFp := []
set_option maxRecDepth 100000 in
set_option maxHeartbeats 4000000 in
theorem ct_X8_put_r59_c4d_38 {Dy : jH → Prop} {h0 : jH} {Q : Option Value → jH → Prop} {dr : jW} (hD : jDk Dy) (hQ : ∀ hx9, jJ jSgX Dy hx9 → jSm fp_X8_put_r59_c4d h0 hx9 → dr = vw hx9 → Q none hx9) : ∀ (h : jH), jJ jSgX Dy h → jSm fp_X8_put_r59_c4d h0 h → d_X8_put_r59_c4d_38  (vw h) = dr → jX m_X8_put 1 0 0 38 [] [] h 0 0 Q := by
  intro  h    J Sm D
  unfold d_X8_put_r59_c4d_38 at D
  refine x_vret rfl rfl ?_
  exact hQ _ J Sm D.symm
set_option maxRecDepth 100000 in
set_option maxHeartbeats 4000000 in
theorem sf_X8_put_r59_c4d {Dy : jH → Prop} {h : jH} {Q : Option Value → jH → Prop} {dr : jW} {a1 : Int32} {a3 : Int32} (y1 : 0 ≤ a1.toInt ∧ a1.toInt ≤ 39) (y3 : 0 ≤ a3.toInt ∧ a3.toInt ≤ 0) (hD : jDk Dy) (J : jJ jSgX Dy h) (D : d_X8_put_r59_c4d a1.toInt a3.toInt (vw h) = dr) (hQ : ∀ hx9, jJ jSgX Dy hx9 → jSm fp_X8_put_r59_c4d h hx9 → dr = vw hx9 → Q none hx9) : jC m_X8_put 1 0 0 [.ref 59, .int a1, .int 4, .int a3] h Q := by
  refine jC.of rfl k_X8_put rfl ?_
  have Sm := jSm_rf fp_X8_put_r59_c4d h
  show jX m_X8_put 1 0 0 0 [(0, .ref 59), (1, .int a1), (2, .int 4), (3, .int a3)] [] _ 0 0 _
  unfold d_X8_put_r59_c4d at D
  refine x_iloadn (x := a1) rfl rfl ?_
  refine x_iflt (tgt := 38) rfl rfl (ti_lt rfl jk_0 (br_f (by omega) ?_))
  refine x_iloadn (x := a1) rfl rfl ?_
  refine x_aloadn (x := 59) rfl rfl ?_
  refine z_getI (N := 4) 8 3 rfl f_8_7 rfl J rfl sg_59_3_4_1_0_1 (fun v1 qv1 ev1 => ?_)
  try rw [vrf qv1] at D
  refine x_icge (tgt := 38) rfl rfl (ti_ge rfl rfl ⟨fun c2 => ?_, fun c2 => ?_⟩)
  ·
    rw [if_pos (by omega)] at D
    exact jX.sub jsb_n (ct_X8_put_r59_c4d_38 hD hQ  h J Sm D)
  ·
    rw [if_neg (by omega)] at D
    refine x_iloadn (x := 4) rfl rfl ?_
    refine x_iflt (tgt := 38) rfl rfl (ti_lt jk_4 jk_0 (br_f (by omega) ?_))
    refine x_iloadn (x := 4) rfl rfl ?_
    refine x_aloadn (x := 59) rfl rfl ?_
    refine z_getC (N := 4) (v := 4) 8 0 rfl f_8_19 rfl J rfl sg_59_0_1_1_0_1 jk_4 ?_
    refine x_icge (tgt := 38) rfl rfl (ti_ge jk_4 jk_4 (br_t (by omega) ?_))
    exact jX.sub jsb_n (ct_X8_put_r59_c4d_38 hD hQ  h J Sm D)
def fp_X8_put_r59_c5d : jFp := []
set_option maxRecDepth 100000 in
set_option maxHeartbeats 4000000 in
theorem ct_X8_put_r59_c5d_38 {Dy : jH → Prop} {h0 : jH} {Q : Option Value → jH → Prop} {dr : jW} (hD : jDk Dy) (hQ : ∀ hx9, jJ jSgX Dy hx9 → jSm fp_X8_put_r59_c5d h0 hx9 → dr = vw hx9 → Q none hx9) : ∀ (h : jH), jJ jSgX Dy h → jSm fp_X8_put_r59_c5d h0 h → d_X8_put_r59_c5d_38  (vw h) = dr → jX m_X8_put 1 0 0 38 [] [] h 0 0 Q := by
  intro  h    J Sm D
  unfold d_X8_put_r59_c5d_38 at D
  refine x_vret rfl rfl ?_
  exact hQ _ J Sm D.symm
set_option maxRecDepth 100000 in
set_option maxHeartbeats 4000000 in
theorem sf_X8_put_r59_c5d {Dy : jH → Prop} {h : jH} {Q : Option Value → jH → Prop} {dr : jW} {a1 : Int32} {a3 : Int32} (y1 : 0 ≤ a1.toInt ∧ a1.toInt ≤ 39) (y3 : 0 ≤ a3.toInt ∧ a3.toInt ≤ 0) (hD : jDk Dy) (J : jJ jSgX Dy h) (D : d_X8_put_r59_c5d a1.toInt a3.toInt (vw h) = dr) (hQ : ∀ hx9, jJ jSgX Dy hx9 → jSm fp_X8_put_r59_c5d h hx9 → dr = vw hx9 → Q none hx9) : jC m_X8_put 1 0 0 [.ref 59, .int a1, .int 5, .int a3] h Q := by
  refine jC.of rfl k_X8_put rfl ?_
  have Sm := jSm_rf fp_X8_put_r59_c5d h
  show jX m_X8_put 1 0 0 0 [(0, .ref 59), (1, .int a1), (2, .int 5), (3, .int a3)] [] _ 0 0 _
  unfold d_X8_put_r59_c5d at D
  refine x_iloadn (x := a1) rfl rfl ?_
  refine x_iflt (tgt := 38) rfl rfl (ti_lt rfl jk_0 (br_f (by omega) ?_))
  refine x_iloadn (x := a1) rfl rfl ?_
  refine x_aloadn (x := 59) rfl rfl ?_
  refine z_getI (N := 4) 8 3 rfl f_8_7 rfl J rfl sg_59_3_4_1_0_1 (fun v1 qv1 ev1 => ?_)
  try rw [vrf qv1] at D
  refine x_icge (tgt := 38) rfl rfl (ti_ge rfl rfl ⟨fun c2 => ?_, fun c2 => ?_⟩)
  ·
    rw [if_pos (by omega)] at D
    exact jX.sub jsb_n (ct_X8_put_r59_c5d_38 hD hQ  h J Sm D)
  ·
    rw [if_neg (by omega)] at D
    refine x_iloadn (x := 5) rfl rfl ?_
    refine x_iflt (tgt := 38) rfl rfl (ti_lt jk_5 jk_0 (br_f (by omega) ?_))
    refine x_iloadn (x := 5) rfl rfl ?_
    refine x_aloadn (x := 59) rfl rfl ?_
    refine z_getC (N := 4) (v := 4) 8 0 rfl f_8_19 rfl J rfl sg_59_0_1_1_0_1 jk_4 ?_
    refine x_icge (tgt := 38) rfl rfl (ti_ge jk_5 jk_4 (br_t (by omega) ?_))
    exact jX.sub jsb_n (ct_X8_put_r59_c5d_38 hD hQ  h J Sm D)
def fp_X8_add_r59d : jFp := [(59, 3, 4), (60, 0, 160)]
set_option maxRecDepth 100000 in
set_option maxHeartbeats 4000000 in
theorem sf_X8_add_r59d {Dy : jH → Prop} {h : jH} {Q : Option Value → jH → Prop} {dr : jW} {a1 : Int32} {a2 : Int32} {a3 : Int32} {a4 : Int32} {a5 : Int32} {a6 : Int32} (y1 : 0 ≤ a1.toInt ∧ a1.toInt ≤ 146399) (y2 : 0 ≤ a2.toInt ∧ a2.toInt ≤ 399) (y3 : 0 ≤ a3.toInt ∧ a3.toInt ≤ 3) (y5 : 0 ≤ a5.toInt ∧ a5.toInt ≤ 0) (y6 : 0 ≤ a6.toInt ∧ a6.toInt ≤ 0) (hD : jDk Dy) (J : jJ jSgX Dy h) (D : d_X8_add_r59d a1.toInt a2.toInt a3.toInt a4.toInt a5.toInt a6.toInt (vw h) = dr) (hQ : ∀ hx9, jJ jSgX Dy hx9 → jSm fp_X8_add_r59d h hx9 → dr = vw hx9 → Q none hx9) : jC m_X8_add 2 0 0 [.ref 59, .int a1, .int a2, .int a3, .int a4, .int a5, .int a6] h Q := by
  refine jC.of rfl k_X8_add rfl ?_
  have Sm := jSm_rf fp_X8_add_r59d h
  have ea4 := jfull a4
  show jX m_X8_add 2 0 0 0 [(0, .ref 59), (1, .int a1), (2, .int a2), (3, .int a3), (4, .int a4), (5, .int a5), (6, .int a6)] [] _ 0 0 _
  unfold d_X8_add_r59d at D
  refine x_aloadn (x := 59) rfl rfl ?_
  refine z_getI (N := 4) 8 3 rfl f_8_7 rfl J rfl sg_59_3_4_1_0_1 (fun v1 qv1 ev1 => ?_)
  try rw [vrf qv1] at D
  refine x_aloadn (x := 59) rfl rfl ?_
  refine z_getC (N := 4) (v := 40) 8 1 rfl f_8_22 rfl J rfl sg_59_1_2_1_0_1 jk_40 ?_
  refine x_iclt (tgt := 12) rfl rfl (ti_lt rfl jk_40 ⟨fun c2 => ?_, fun c2 => ?_⟩)
  ·
    rw [if_pos (by omega)] at D
    refine x_aloadn (x := 59) rfl rfl ?_
    refine z_getM (N := 4) (v := v1) 8 3 rfl f_8_7 rfl J rfl qv1 ?_
    refine x_istore (lsx9 := [(7, .int v1), (0, .ref 59), (1, .int a1), (2, .int a2), (3, .int a3), (4, .int a4), (5, .int a5), (6, .int a6)]) rfl rfl rfl ?_
    refine x_aloadn (x := 59) rfl rfl ?_
    refine x_iload (x := v1) rfl rfl ?_
    refine x_iconst (v := 1) rfl ki_1 ?_
    refine z_iadd rfl rfl jk_1 (by omega) (fun v3 ev3 => ?_)
    refine z_putI (N := 4) (w := v3.toInt) 8 3 rfl f_8_7 rfl (jfin_no TX8 RX8 4 rfl rfl) hD J Sm rfl rfl rfl (pw_59_3 (by omega)) rfl (fun h w4 J Sm => ?_)
    rw [vwf w4 (show (v1.toInt + 1) = v3.toInt from by omega)] at D
    refine x_aloadn (x := 59) rfl rfl ?_
    refine x_iload (x := v1) rfl rfl ?_
    refine x_iconst (v := 0) rfl ki_0 ?_
    refine x_iloadn (x := a1) rfl rfl ?_
    refine x_inv (N := m_X8_put) (As := [.int v1, .int 0, .int a1]) (b := 59) (st := []) (dx9 := 1) (mc := 0) (ms := 0) (host := "") 8 rfl t_X8_put ⟨Or.inl q_8_29, i_X8_put.1, i_X8_put.2⟩ ⟨by decide, rfl⟩ (congrArg Prod.fst (J.1.1 59 (8, 4) rfl)) rfl (by decide) rfl rfl ⟨by decide, by decide⟩ (sf_X8_put_r59_c0d (jr_of rfl (by omega)) (jr_of rfl (by omega)) hD J rfl  (fun h J S5 X6 => ?_))
    have Sm := jSm_tr rfl Sm S5
    rw [X6] at D
    show jX m_X8_add 2 0 0 34 [(7, .int v1), (0, .ref 59), (1, .int a1), (2, .int a2), (3, .int a3), (4, .int a4), (5, .int a5), (6, .int a6)] [] _ 0 0 _
    refine x_aloadn (x := 59) rfl rfl ?_
    refine x_iload (x := v1) rfl rfl ?_
    refine x_iconst (v := 1) rfl ki_1 ?_
    refine x_iloadn (x := a2) rfl rfl ?_
    refine x_inv (N := m_X8_put) (As := [.int v1, .int 1, .int a2]) (b := 59) (st := []) (dx9 := 1) (mc := 0) (ms := 0) (host := "") 8 rfl t_X8_put ⟨Or.inl q_8_29, i_X8_put.1, i_X8_put.2⟩ ⟨by decide, rfl⟩ (congrArg Prod.fst (J.1.1 59 (8, 4) rfl)) rfl (by decide) rfl rfl ⟨by decide, by decide⟩ (sf_X8_put_r59_c1d (jr_of rfl (by omega)) (jr_of rfl (by omega)) hD J rfl  (fun h J S7 X8 => ?_))
    have Sm := jSm_tr rfl Sm S7
    rw [X8] at D
    show jX m_X8_add 2 0 0 42 [(7, .int v1), (0, .ref 59), (1, .int a1), (2, .int a2), (3, .int a3), (4, .int a4), (5, .int a5), (6, .int a6)] [] _ 0 0 _
    refine x_aloadn (x := 59) rfl rfl ?_
    refine x_iload (x := v1) rfl rfl ?_
    refine x_iconst (v := 2) rfl ki_2 ?_
    refine x_iloadn (x := a3) rfl rfl ?_
    refine x_inv (N := m_X8_put) (As := [.int v1, .int 2, .int a3]) (b := 59) (st := []) (dx9 := 1) (mc := 0) (ms := 0) (host := "") 8 rfl t_X8_put ⟨Or.inl q_8_29, i_X8_put.1, i_X8_put.2⟩ ⟨by decide, rfl⟩ (congrArg Prod.fst (J.1.1 59 (8, 4) rfl)) rfl (by decide) rfl rfl ⟨by decide, by decide⟩ (sf_X8_put_r59_c2d (jr_of rfl (by omega)) (jr_of rfl (by omega)) hD J rfl  (fun h J S9 X10 => ?_))
    have Sm := jSm_tr rfl Sm S9
    rw [X10] at D
    show jX m_X8_add 2 0 0 50 [(7, .int v1), (0, .ref 59), (1, .int a1), (2, .int a2), (3, .int a3), (4, .int a4), (5, .int a5), (6, .int a6)] [] _ 0 0 _
    refine x_aloadn (x := 59) rfl rfl ?_
    refine x_iload (x := v1) rfl rfl ?_
    refine x_iconst (v := 3) rfl ki_3 ?_
    refine x_iload (x := a4) rfl rfl ?_
    refine x_inv (N := m_X8_put) (As := [.int v1, .int 3, .int a4]) (b := 59) (st := []) (dx9 := 1) (mc := 0) (ms := 0) (host := "") 8 rfl t_X8_put ⟨Or.inl q_8_29, i_X8_put.1, i_X8_put.2⟩ ⟨by decide, rfl⟩ (congrArg Prod.fst (J.1.1 59 (8, 4) rfl)) rfl (by decide) rfl rfl ⟨by decide, by decide⟩ (sf_X8_put_r59_c3d (jr_of rfl (by omega)) hD J rfl  (fun h J S11 X12 => ?_))
    have Sm := jSm_tr rfl Sm S11
    rw [X12] at D
    show jX m_X8_add 2 0 0 59 [(7, .int v1), (0, .ref 59), (1, .int a1), (2, .int a2), (3, .int a3), (4, .int a4), (5, .int a5), (6, .int a6)] [] _ 0 0 _
    refine x_aloadn (x := 59) rfl rfl ?_
    refine x_iload (x := v1) rfl rfl ?_
    refine x_iconst (v := 4) rfl ki_4 ?_
    refine x_iload (x := a5) rfl rfl ?_
    refine x_inv (N := m_X8_put) (As := [.int v1, .int 4, .int a5]) (b := 59) (st := []) (dx9 := 1) (mc := 0) (ms := 0) (host := "") 8 rfl t_X8_put ⟨Or.inl q_8_29, i_X8_put.1, i_X8_put.2⟩ ⟨by decide, rfl⟩ (congrArg Prod.fst (J.1.1 59 (8, 4) rfl)) rfl (by decide) rfl rfl ⟨by decide, by decide⟩ (sf_X8_put_r59_c4d (jr_of rfl (by omega)) (jr_of rfl (by omega)) hD J rfl  (fun h J S13 X14 => ?_))
    have Sm := jSm_tr rfl Sm S13
    rw [X14] at D
    show jX m_X8_add 2 0 0 68 [(7, .int v1), (0, .ref 59), (1, .int a1), (2, .int a2), (3, .int a3), (4, .int a4), (5, .int a5), (6, .int a6)] [] _ 0 0 _
    refine x_aloadn (x := 59) rfl rfl ?_
    refine x_iload (x := v1) rfl rfl ?_
    refine x_iconst (v := 5) rfl ki_5 ?_
    refine x_iload (x := a6) rfl rfl ?_
    refine x_inv (N := m_X8_put) (As := [.int v1, .int 5, .int a6]) (b := 59) (st := []) (dx9 := 1) (mc := 0) (ms := 0) (host := "") 8 rfl t_X8_put ⟨Or.inl q_8_29, i_X8_put.1, i_X8_put.2⟩ ⟨by decide, rfl⟩ (congrArg Prod.fst (J.1.1 59 (8, 4) rfl)) rfl (by decide) rfl rfl ⟨by decide, by decide⟩ (sf_X8_put_r59_c5d (jr_of rfl (by omega)) (jr_of rfl (by omega)) hD J rfl  (fun h J S15 X16 => ?_))
    have Sm := jSm_tr rfl Sm S15
    rw [X16] at D
    show jX m_X8_add 2 0 0 77 [(7, .int v1), (0, .ref 59), (1, .int a1), (2, .int a2), (3, .int a3), (4, .int a4), (5, .int a5), (6, .int a6)] [] _ 0 0 _
    refine x_vret rfl rfl ?_
    exact hQ _ J Sm D.symm
  ·
    rw [if_neg (by omega)] at D
    refine x_vret rfl rfl ?_
    exact hQ _ J Sm D.symm
def fp_X8_isFull_r59d : jFp := []
set_option maxRecDepth 100000 in
set_option maxHeartbeats 4000000 in
theorem ct_X8_isFull_r59d_200016 {Dy : jH → Prop} {h0 : jH} {Q : Option Value → jH → Prop} {dr : Int} (hD : jDk Dy) (hQ : ∀ (v : Int32) hx9, 0 ≤ v.toInt ∧ v.toInt ≤ 1 → jJ jSgX Dy hx9 → jSm fp_X8_isFull_r59d h0 hx9 → dr = v.toInt → vw hx9 = vw h0 → Q (some (.int v)) hx9) : ∀ (h : jH), jJ jSgX Dy h → jSm fp_X8_isFull_r59d h0 h → d_X8_isFull_r59d_200016  (vw h) = dr → vw h = vw h0 → jX m_X8_isFull 1 0 0 16 [] [.int 0] h 0 0 Q := by
  intro  h    J Sm D EV
  unfold d_X8_isFull_r59d_200016 at D
  refine x_zret rfl rfl (by decide) ?_
  exact hQ _ _ (jr_of jk_0 (by omega)) J Sm (D.symm.trans (show 0 = (0 : Int32).toInt from by have := jk_0; omega)) EV
set_option maxRecDepth 100000 in
set_option maxHeartbeats 4000000 in
theorem ct_X8_isFull_r59d_300016 {Dy : jH → Prop} {h0 : jH} {Q : Option Value → jH → Prop} {dr : Int} (hD : jDk Dy) (hQ : ∀ (v : Int32) hx9, 0 ≤ v.toInt ∧ v.toInt ≤ 1 → jJ jSgX Dy hx9 → jSm fp_X8_isFull_r59d h0 hx9 → dr = v.toInt → vw hx9 = vw h0 → Q (some (.int v)) hx9) : ∀ (h : jH), jJ jSgX Dy h → jSm fp_X8_isFull_r59d h0 h → d_X8_isFull_r59d_300016  (vw h) = dr → vw h = vw h0 → jX m_X8_isFull 1 0 0 16 [] [.int 1] h 0 0 Q := by
  intro  h    J Sm D EV
  unfold d_X8_isFull_r59d_300016 at D
  refine x_zret rfl rfl (by decide) ?_
  exact hQ _ _ (jr_of jk_1 (by omega)) J Sm (D.symm.trans (show 1 = (1 : Int32).toInt from by have := jk_1; omega)) EV
set_option maxRecDepth 100000 in
set_option maxHeartbeats 4000000 in
theorem sf_X8_isFull_r59d {Dy : jH → Prop} {h : jH} {Q : Option Value → jH → Prop} {dr : Int} (hD : jDk Dy) (J : jJ jSgX Dy h) (D : d_X8_isFull_r59d (vw h) = dr) (hQ : ∀ (v : Int32) hx9, 0 ≤ v.toInt ∧ v.toInt ≤ 1 → jJ jSgX Dy hx9 → jSm fp_X8_isFull_r59d h hx9 → dr = v.toInt → vw hx9 = vw h → Q (some (.int v)) hx9) : jC m_X8_isFull 1 0 0 [.ref 59] h Q := by
  refine jC.of rfl k_X8_isFull rfl ?_
  have Sm := jSm_rf fp_X8_isFull_r59d h
  show jX m_X8_isFull 1 0 0 0 [(0, .ref 59)] [] _ 0 0 _
  unfold d_X8_isFull_r59d at D
  have EV : vw h = vw h := rfl
  refine x_aloadn (x := 59) rfl rfl ?_
  refine z_getI (N := 4) 8 3 rfl f_8_7 rfl J rfl sg_59_3_4_1_0_1 (fun v1 qv1 ev1 => ?_)
  try rw [vrf qv1] at D
  refine x_aloadn (x := 59) rfl rfl ?_
  refine z_getC (N := 4) (v := 40) 8 1 rfl f_8_22 rfl J rfl sg_59_1_2_1_0_1 jk_40 ?_
  refine x_iclt (tgt := 15) rfl rfl (ti_lt rfl jk_40 ⟨fun c2 => ?_, fun c2 => ?_⟩)
  ·
    rw [if_pos (by omega)] at D
    refine x_iconst (v := 0) rfl ki_0 ?_
    exact jX.sub jsb_n (ct_X8_isFull_r59d_200016 hD hQ  h J Sm D EV)
  ·
    rw [if_neg (by omega)] at D
    refine x_iconst (v := 1) rfl ki_1 ?_
    refine x_goto (tgt := 16) rfl rfl ?_
    exact jX.sub jsb_n (ct_X8_isFull_r59d_300016 hD hQ  h J Sm D EV)
def fp_X11_close_r31d : jFp := [(31, 12, 13), (32, 19, 20), (59, 3, 4), (60, 0, 160)]
set_option maxRecDepth 100000 in
set_option maxHeartbeats 4000000 in
theorem ct_X11_close_r31d_22 {Dy : jH → Prop} {h0 : jH} {Q : Option Value → jH → Prop} {dr : (Int × jW)} (hD : jDk Dy) (hQ : ∀ (v : Int32) hx9, (-5) ≤ v.toInt ∧ v.toInt ≤ 0 → jJ jSgX Dy hx9 → jSm fp_X11_close_r31d h0 hx9 → dr.1 = v.toInt → dr.2 = vw hx9 → Q (some (.int v)) hx9) : ∀ (h : jH), jJ jSgX Dy h → jSm fp_X11_close_r31d h0 h → d_X11_close_r31d_22  (vw h) = dr → jX m_X11_close 5 0 0 22 [(0, .ref 31)] [] h 0 0 Q := by
  intro  h    J Sm D
  unfold d_X11_close_r31d_22 at D
  refine x_aloadn (x := 31) rfl rfl ?_
  refine x_iconst (v := (-1)) rfl ki_m1 ?_
  refine x_inv (N := m_X11_refuse) (As := [.int (-1)]) (b := 31) (st := []) (dx9 := 4) (mc := 0) (ms := 0) (host := "") 11 rfl t_X11_refuse ⟨Or.inl q_11_206, i_X11_refuse.1, i_X11_refuse.2⟩ ⟨by decide, rfl⟩ (congrArg Prod.fst (J.1.1 31 (11, 13) rfl)) rfl (by decide) rfl rfl ⟨by decide, by decide⟩ (jC.of rfl k_X11_refuse rfl ?_)
  show jX m_X11_refuse 4 0 0 0 [(0, .ref 31), (1, .int (-1))] [] _ 0 0 _
  refine x_aloadn (x := 31) rfl rfl ?_
  refine x_iloadn (x := (-1)) rfl rfl ?_
  refine z_putI (N := 13) (w := (-1)) 11 12 rfl f_11_94 rfl (jfin_no TX11 RX11 13 rfl rfl) hD J Sm rfl rfl jk_m1 (pw_31_12 (by omega)) rfl (fun h w1 J Sm => ?_)
  rw [vwf w1 (show (-1) = ((-1) : Int32).toInt from by have := jk_m1; omega)] at D
  refine x_iloadn (x := (-1)) rfl rfl ?_
  refine x_iret rfl rfl ?_
  show jX m_X11_close 5 0 0 27 [(0, .ref 31)] [.int (-1)] _ 0 0 _
  refine x_iret rfl rfl ?_
  exact hQ _ _ (jr_of jk_m1 (by omega)) J Sm ((congrArg Prod.fst D).symm.trans (show (-1) = ((-1) : Int32).toInt from by have := jk_m1; omega)) (congrArg Prod.snd D).symm
set_option maxRecDepth 100000 in
set_option maxHeartbeats 4000000 in
theorem ct_X11_close_r31d_61 {Dy : jH → Prop} {h0 : jH} {Q : Option Value → jH → Prop} {dr : (Int × jW)} (hD : jDk Dy) (hQ : ∀ (v : Int32) hx9, (-5) ≤ v.toInt ∧ v.toInt ≤ 0 → jJ jSgX Dy hx9 → jSm fp_X11_close_r31d h0 hx9 → dr.1 = v.toInt → dr.2 = vw hx9 → Q (some (.int v)) hx9) : ∀ (h : jH), jJ jSgX Dy h → jSm fp_X11_close_r31d h0 h → d_X11_close_r31d_61  (vw h) = dr → jX m_X11_close 5 0 0 61 [(0, .ref 31)] [] h 0 0 Q := by
  intro  h    J Sm D
  unfold d_X11_close_r31d_61 at D
  refine x_aloadn (x := 31) rfl rfl ?_
  refine x_bipush (v := (-3)) rfl kb_m3 ?_
  refine x_inv (N := m_X11_refuse) (As := [.int (-3)]) (b := 31) (st := []) (dx9 := 4) (mc := 0) (ms := 0) (host := "") 11 rfl t_X11_refuse ⟨Or.inl q_11_206, i_X11_refuse.1, i_X11_refuse.2⟩ ⟨by decide, rfl⟩ (congrArg Prod.fst (J.1.1 31 (11, 13) rfl)) rfl (by decide) rfl rfl ⟨by decide, by decide⟩ (jC.of rfl k_X11_refuse rfl ?_)
  show jX m_X11_refuse 4 0 0 0 [(0, .ref 31), (1, .int (-3))] [] _ 0 0 _
  refine x_aloadn (x := 31) rfl rfl ?_
  refine x_iloadn (x := (-3)) rfl rfl ?_
  refine z_putI (N := 13) (w := (-3)) 11 12 rfl f_11_94 rfl (jfin_no TX11 RX11 13 rfl rfl) hD J Sm rfl rfl jk_m3 (pw_31_12 (by omega)) rfl (fun h w1 J Sm => ?_)
  rw [vwf w1 (show (-3) = ((-3) : Int32).toInt from by have := jk_m3; omega)] at D
  refine x_iloadn (x := (-3)) rfl rfl ?_
  refine x_iret rfl rfl ?_
  show jX m_X11_close 5 0 0 67 [(0, .ref 31)] [.int (-3)] _ 0 0 _
  refine x_iret rfl rfl ?_
  exact hQ _ _ (jr_of jk_m3 (by omega)) J Sm ((congrArg Prod.fst D).symm.trans (show (-3) = ((-3) : Int32).toInt from by have := jk_m3; omega)) (congrArg Prod.snd D).symm
set_option maxRecDepth 100000 in
set_option maxHeartbeats 4000000 in
theorem ct_X11_close_r31d_49 {Dy : jH → Prop} {h0 : jH} {Q : Option Value → jH → Prop} {dr : (Int × jW)} (hD : jDk Dy) (hQ : ∀ (v : Int32) hx9, (-5) ≤ v.toInt ∧ v.toInt ≤ 0 → jJ jSgX Dy hx9 → jSm fp_X11_close_r31d h0 hx9 → dr.1 = v.toInt → dr.2 = vw hx9 → Q (some (.int v)) hx9) : ∀ (l1 : Int32) (l2 : Int32) (l3 : Int32) (l4 : Int32) (h : jH), 0 ≤ l1.toInt ∧ l1.toInt ≤ 3 → 0 ≤ l2.toInt ∧ l2.toInt ≤ 399 → 0 ≤ l4.toInt ∧ l4.toInt ≤ 146399 → jJ jSgX Dy h → jSm fp_X11_close_r31d h0 h → d_X11_close_r31d_49  l1.toInt l2.toInt l3.toInt l4.toInt (vw h) = dr → jX m_X11_close 5 0 0 49 [(0, .ref 31), (1, .int l1), (2, .int l2), (3, .int l3), (4, .int l4)] [] h 0 0 Q := by
  intro l1 l2 l3 l4 h y0 y1 y2   J Sm D
  have el3 := jfull l3
  unfold d_X11_close_r31d_49 at D
  refine x_iloadn (x := l3) rfl rfl ?_
  refine x_aloadn (x := 31) rfl rfl ?_
  refine x_iloadn (x := l1) rfl rfl ?_
  refine x_iloadn (x := l2) rfl rfl ?_
  refine x_iload (x := l4) rfl rfl ?_
  refine x_inv (N := m_X11_balanceOf) (As := [.int l1, .int l2, .int l4]) (b := 31) (st := [.int l3]) (dx9 := 4) (mc := 0) (ms := 0) (host := "") 11 rfl t_X11_balanceOf ⟨Or.inl q_11_479, i_X11_balanceOf.1, i_X11_balanceOf.2⟩ ⟨by decide, rfl⟩ (congrArg Prod.fst (J.1.1 31 (11, 13) rfl)) rfl (by decide) rfl rfl ⟨by decide, by decide⟩ (sf_X11_balanceOf_r31d (jr_of rfl (by omega)) (jr_of rfl (by omega)) (jr_of rfl (by omega)) hD J rfl  (fun v4 h J S1 X2 X3 => ?_))
  have ev4 := jfull v4
  have Sm := jSm_tr rfl Sm S1
  try rw [X2] at D
  try rw [← X3] at D
  show jX m_X11_close 5 0 0 58 [(0, .ref 31), (1, .int l1), (2, .int l2), (3, .int l3), (4, .int l4)] [.int v4, .int l3] _ 0 0 _
  refine x_iceq (tgt := 68) rfl rfl (ti_eq rfl rfl ⟨fun c5 => ?_, fun c5 => ?_⟩)
  ·
    rw [if_pos (by omega)] at D
    refine x_aloadn (x := 31) rfl rfl ?_
    refine z_getR (N := 13) (b := 32) 11 0 rfl f_11_10 rfl J rfl 3968 ⟨rfl, rfl⟩ rfl ?_
    refine z_getR (N := 20) (b := 59) 1 13 rfl f_11_482 rfl J rfl 4109 ⟨rfl, rfl⟩ rfl ?_
    refine x_inv (N := m_X8_isFull) (As := []) (b := 59) (st := []) (dx9 := 1) (mc := 0) (ms := 0) (host := "") 8 rfl t_X8_isFull ⟨Or.inl q_11_130, i_X8_isFull.1, i_X8_isFull.2⟩ ⟨by decide, rfl⟩ (congrArg Prod.fst (J.1.1 59 (8, 4) rfl)) rfl (by decide) rfl rfl ⟨by decide, by decide⟩ (sf_X8_isFull_r59d  hD J rfl  (fun v9 h ev9 J S6 X7 X8 => ?_))
    have Sm := jSm_tr rfl Sm S6
    try rw [X7] at D
    try rw [← X8] at D
    show jX m_X11_close 5 0 0 78 [(0, .ref 31), (1, .int l1), (2, .int l2), (3, .int l3), (4, .int l4)] [.int v9] _ 0 0 _
    refine x_ifeq (tgt := 88) rfl rfl (ti_eq rfl jk_0 ⟨fun c10 => ?_, fun c10 => ?_⟩)
    ·
      rw [if_pos (by omega)] at D
      refine x_aloadn (x := 31) rfl rfl ?_
      refine z_getR (N := 13) (b := 32) 11 0 rfl f_11_10 rfl J rfl 3968 ⟨rfl, rfl⟩ rfl ?_
      refine z_getR (N := 20) (b := 59) 1 13 rfl f_11_482 rfl J rfl 4109 ⟨rfl, rfl⟩ rfl ?_
      refine x_iload (x := l4) rfl rfl ?_
      refine x_iloadn (x := l2) rfl rfl ?_
      refine x_iloadn (x := l1) rfl rfl ?_
      refine x_iloadn (x := l3) rfl rfl ?_
      refine x_iconst (v := 0) rfl ki_0 ?_
      refine x_iconst (v := 0) rfl ki_0 ?_
      refine x_inv (N := m_X8_add) (As := [.int l4, .int l2, .int l1, .int l3, .int 0, .int 0]) (b := 59) (st := []) (dx9 := 2) (mc := 0) (ms := 0) (host := "") 8 rfl t_X8_add ⟨Or.inl q_11_145, i_X8_add.1, i_X8_add.2⟩ ⟨by decide, rfl⟩ (congrArg Prod.fst (J.1.1 59 (8, 4) rfl)) rfl (by decide) rfl rfl ⟨by decide, by decide⟩ (sf_X8_add_r59d (jr_of rfl (by omega)) (jr_of rfl (by omega)) (jr_of rfl (by omega)) (jr_of jk_0 (by omega)) (jr_of jk_0 (by omega)) hD J rfl  (fun h J S11 X12 => ?_))
      have Sm := jSm_tr rfl Sm S11
      try rw [jk_0] at X12
      rw [X12] at D
      show jX m_X11_close 5 0 0 105 [(0, .ref 31), (1, .int l1), (2, .int l2), (3, .int l3), (4, .int l4)] [] _ 0 0 _
      refine x_aloadn (x := 31) rfl rfl ?_
      refine x_iconst (v := 0) rfl ki_0 ?_
      refine x_inv (N := m_X11_accept) (As := [.int 0]) (b := 31) (st := []) (dx9 := 4) (mc := 0) (ms := 0) (host := "") 11 rfl t_X11_accept ⟨Or.inl q_11_165, i_X11_accept.1, i_X11_accept.2⟩ ⟨by decide, rfl⟩ (congrArg Prod.fst (J.1.1 31 (11, 13) rfl)) rfl (by decide) rfl rfl ⟨by decide, by decide⟩ (jC.of rfl k_X11_accept rfl ?_)
      show jX m_X11_accept 4 0 0 0 [(0, .ref 31), (1, .int 0)] [] _ 0 0 _
      refine x_aloadn (x := 31) rfl rfl ?_
      refine x_iconst (v := 0) rfl ki_0 ?_
      refine z_putI (N := 13) (w := 0) 11 12 rfl f_11_94 rfl (jfin_no TX11 RX11 13 rfl rfl) hD J Sm rfl rfl jk_0 (pw_31_12 (by omega)) rfl (fun h w13 J Sm => ?_)
      rw [vwf w13 (show 0 = (0 : Int32).toInt from by have := jk_0; omega)] at D
      refine x_aloadn (x := 31) rfl rfl ?_
      refine z_getR (N := 13) (b := 32) 11 0 rfl f_11_10 rfl J rfl 3968 ⟨rfl, rfl⟩ rfl ?_
      refine x_dup rfl rfl ?_
      refine z_getI0 (N := 20) 1 19 rfl f_11_528 rfl J rfl (fun v14 qv14 => ?_)
      have ev14 := jfull v14
      try rw [vrf (jmb_c S11 (jmb_w w13 qv14 rfl) rfl)] at D
      refine x_iconst (v := 1) rfl ki_1 ?_
      refine z_iaddW rfl rfl jk_1 (fun v15 ev15 => ?_)
      have fv15 := jfull v15
      try rw [← ev15] at D
      refine z_putI (N := 20) (w := v15.toInt) 1 19 rfl f_11_528 rfl (jfin_no TX1 RX1 20 rfl rfl) hD J Sm rfl rfl rfl (pw_32_19 trivial) rfl (fun h w16 J Sm => ?_)
      rw [vwf w16 (show v15.toInt = v15.toInt from by omega)] at D
      refine x_iloadn (x := 0) rfl rfl ?_
      refine x_iret rfl rfl ?_
      show jX m_X11_close 5 0 0 110 [(0, .ref 31), (1, .int l1), (2, .int l2), (3, .int l3), (4, .int l4)] [.int 0] _ 0 0 _
      refine x_iret rfl rfl ?_
      exact hQ _ _ (jr_of jk_0 (by omega)) J Sm ((congrArg Prod.fst D).symm.trans (show 0 = (0 : Int32).toInt from by have := jk_0; omega)) (congrArg Prod.snd D).symm
    ·
      rw [if_neg (by omega)] at D
      refine x_aloadn (x := 31) rfl rfl ?_
      refine x_bipush (v := (-5)) rfl kb_m5 ?_
      refine x_inv (N := m_X11_refuse) (As := [.int (-5)]) (b := 31) (st := []) (dx9 := 4) (mc := 0) (ms := 0) (host := "") 11 rfl t_X11_refuse ⟨Or.inl q_11_206, i_X11_refuse.1, i_X11_refuse.2⟩ ⟨by decide, rfl⟩ (congrArg Prod.fst (J.1.1 31 (11, 13) rfl)) rfl (by decide) rfl rfl ⟨by decide, by decide⟩ (jC.of rfl k_X11_refuse rfl ?_)
      show jX m_X11_refuse 4 0 0 0 [(0, .ref 31), (1, .int (-5))] [] _ 0 0 _
      refine x_aloadn (x := 31) rfl rfl ?_
      refine x_iloadn (x := (-5)) rfl rfl ?_
      refine z_putI (N := 13) (w := (-5)) 11 12 rfl f_11_94 rfl (jfin_no TX11 RX11 13 rfl rfl) hD J Sm rfl rfl jk_m5 (pw_31_12 (by omega)) rfl (fun h w17 J Sm => ?_)
      rw [vwf w17 (show (-5) = ((-5) : Int32).toInt from by have := jk_m5; omega)] at D
      refine x_iloadn (x := (-5)) rfl rfl ?_
      refine x_iret rfl rfl ?_
      show jX m_X11_close 5 0 0 87 [(0, .ref 31), (1, .int l1), (2, .int l2), (3, .int l3), (4, .int l4)] [.int (-5)] _ 0 0 _
      refine x_iret rfl rfl ?_
      exact hQ _ _ (jr_of jk_m5 (by omega)) J Sm ((congrArg Prod.fst D).symm.trans (show (-5) = ((-5) : Int32).toInt from by have := jk_m5; omega)) (congrArg Prod.snd D).symm
  ·
    rw [if_neg (by omega)] at D
    exact jX.sub (jsb_c rfl jsb_n) (ct_X11_close_r31d_61 hD hQ  h J Sm D)
set_option maxRecDepth 100000 in
set_option maxHeartbeats 4000000 in
theorem sf_X11_close_r31d {Dy : jH → Prop} {h : jH} {Q : Option Value → jH → Prop} {dr : (Int × jW)} {a1 : Int32} {a2 : Int32} {a3 : Int32} {a4 : Int32} (hD : jDk Dy) (J : jJ jSgX Dy h) (D : d_X11_close_r31d a1.toInt a2.toInt a3.toInt a4.toInt (vw h) = dr) (hQ : ∀ (v : Int32) hx9, (-5) ≤ v.toInt ∧ v.toInt ≤ 0 → jJ jSgX Dy hx9 → jSm fp_X11_close_r31d h hx9 → dr.1 = v.toInt → dr.2 = vw hx9 → Q (some (.int v)) hx9) : jC m_X11_close 5 0 0 [.ref 31, .int a1, .int a2, .int a3, .int a4] h Q := by
  refine jC.of rfl k_X11_close rfl ?_
  have Sm := jSm_rf fp_X11_close_r31d h
  have ea1 := jfull a1
  have ea2 := jfull a2
  have ea3 := jfull a3
  have ea4 := jfull a4
  show jX m_X11_close 5 0 0 0 [(0, .ref 31), (1, .int a1), (2, .int a2), (3, .int a3), (4, .int a4)] [] _ 0 0 _
  unfold d_X11_close_r31d at D
  refine x_iloadn (x := a1) rfl rfl ?_
  refine x_inst (N := m_X11_isOffice) (As := [.int a1]) (st := []) (dx9 := 1) (mc := 0) (ms := 0) (host := "") rfl t_X11_isOffice ⟨Or.inl q_11_456, s_X11_isOffice⟩ rfl (by decide) rfl rfl ⟨by decide, by decide⟩ (zc_X11_isOffice rfl (fun v1 ev1 => ?_))
  show jX m_X11_close 5 0 0 4 [(0, .ref 31), (1, .int a1), (2, .int a2), (3, .int a3), (4, .int a4)] [.int v1] _ 0 0 _
  refine x_ifeq (tgt := 22) rfl rfl (ti_eq rfl jk_0 ⟨fun c2 => ?_, fun c2 => ?_⟩)
  ·
    rw [if_neg (by omega)] at D
    exact jX.sub (jsb_c rfl jsb_n) (ct_X11_close_r31d_22 hD hQ  h J Sm D)
  ·
    rw [if_pos (by omega)] at D
    refine x_iloadn (x := a2) rfl rfl ?_
    refine x_inst (N := m_X11_isYear) (As := [.int a2]) (st := []) (dx9 := 1) (mc := 0) (ms := 0) (host := "") rfl t_X11_isYear ⟨Or.inl q_11_433, s_X11_isYear⟩ rfl (by decide) rfl rfl ⟨by decide, by decide⟩ (zc_X11_isYear rfl (fun v3 ev3 => ?_))
    show jX m_X11_close 5 0 0 11 [(0, .ref 31), (1, .int a1), (2, .int a2), (3, .int a3), (4, .int a4)] [.int v3] _ 0 0 _
    refine x_ifeq (tgt := 22) rfl rfl (ti_eq rfl jk_0 ⟨fun c4 => ?_, fun c4 => ?_⟩)
    ·
      rw [if_neg (by omega)] at D
      exact jX.sub (jsb_c rfl jsb_n) (ct_X11_close_r31d_22 hD hQ  h J Sm D)
    ·
      rw [if_pos (by omega)] at D
      refine x_iload (x := a4) rfl rfl ?_
      refine x_inst (N := m_X11_isDay) (As := [.int a4]) (st := []) (dx9 := 1) (mc := 0) (ms := 0) (host := "") rfl t_X11_isDay ⟨Or.inl q_11_115, s_X11_isDay⟩ rfl (by decide) rfl rfl ⟨by decide, by decide⟩ (zc_X11_isDay rfl (fun v5 ev5 => ?_))
      show jX m_X11_close 5 0 0 19 [(0, .ref 31), (1, .int a1), (2, .int a2), (3, .int a3), (4, .int a4)] [.int v5] _ 0 0 _
      refine x_ifne (tgt := 28) rfl rfl (ti_ne rfl jk_0 ⟨fun c6 => ?_, fun c6 => ?_⟩)
      ·
        rw [if_pos (by omega)] at D
        refine x_aloadn (x := 31) rfl rfl ?_
        refine x_iloadn (x := a1) rfl rfl ?_
        refine x_inv (N := m_X11_lastClosed) (As := [.int a1]) (b := 31) (st := []) (dx9 := 2) (mc := 0) (ms := 0) (host := "") 11 rfl t_X11_lastClosed ⟨Or.inl q_11_476, i_X11_lastClosed.1, i_X11_lastClosed.2⟩ ⟨by decide, rfl⟩ (congrArg Prod.fst (J.1.1 31 (11, 13) rfl)) rfl (by decide) rfl rfl ⟨by decide, by decide⟩ (sf_X11_lastClosed_r31d (jr_of rfl (by omega)) hD J rfl  (fun v10 h ev10 J S7 X8 X9 => ?_))
        have Sm := jSm_tr rfl Sm S7
        try rw [X8] at D
        try rw [← X9] at D
        show jX m_X11_close 5 0 0 33 [(0, .ref 31), (1, .int a1), (2, .int a2), (3, .int a3), (4, .int a4)] [.int v10] _ 0 0 _
        refine x_istore (lsx9 := [(5, .int v10), (0, .ref 31), (1, .int a1), (2, .int a2), (3, .int a3), (4, .int a4)]) rfl rfl rfl ?_
        refine x_iload (x := v10) rfl rfl ?_
        refine x_iconst (v := (-1)) rfl ki_m1 ?_
        refine x_iceq (tgt := 49) rfl rfl (ti_eq rfl jk_m1 ⟨fun c11 => ?_, fun c11 => ?_⟩)
        ·
          rw [if_pos (by omega)] at D
          exact jX.sub (jsb_c rfl (jsb_c rfl (jsb_c rfl (jsb_c rfl (jsb_c rfl jsb_n))))) (ct_X11_close_r31d_49 hD hQ  a1 a2 a3 a4 h (jr_of rfl (by omega)) (jr_of rfl (by omega)) (jr_of rfl (by omega)) J Sm D)
        ·
          rw [if_neg (by omega)] at D
          refine x_iloadn (x := a2) rfl rfl ?_
          refine x_iload (x := v10) rfl rfl ?_
          refine x_iconst (v := 1) rfl ki_1 ?_
          refine z_iadd rfl rfl jk_1 (by omega) (fun v12 ev12 => ?_)
          refine x_icne (tgt := 61) rfl rfl (ti_ne rfl rfl ⟨fun c13 => ?_, fun c13 => ?_⟩)
          ·
            rw [if_neg (by omega)] at D
            exact jX.sub (jsb_c rfl jsb_n) (ct_X11_close_r31d_61 hD hQ  h J Sm D)
          ·
            rw [if_pos (by omega)] at D
            exact jX.sub (jsb_c rfl (jsb_c rfl (jsb_c rfl (jsb_c rfl (jsb_c rfl jsb_n))))) (ct_X11_close_r31d_49 hD hQ  a1 a2 a3 a4 h (jr_of rfl (by omega)) (jr_of rfl (by omega)) (jr_of rfl (by omega)) J Sm D)
      ·
        rw [if_neg (by omega)] at D
        exact jX.sub (jsb_c rfl jsb_n) (ct_X11_close_r31d_22 hD hQ  h J Sm D)
def fp_X8_at_r61_c1d : jFp := []
set_option maxRecDepth 100000 in
set_option maxHeartbeats 4000000 in
theorem ct_X8_at_r61_c1d_24 {Dy : jH → Prop} {h0 : jH} {Q : Option Value → jH → Prop} {dr : Int} (hD : jDk Dy) (hQ : ∀ (v : Int32) hx9, 0 ≤ v.toInt ∧ v.toInt ≤ 399 → jJ jSgX Dy hx9 → jSm fp_X8_at_r61_c1d h0 hx9 → dr = v.toInt → vw hx9 = vw h0 → Q (some (.int v)) hx9) : ∀ (h : jH), jJ jSgX Dy h → jSm fp_X8_at_r61_c1d h0 h → d_X8_at_r61_c1d_24  (vw h) = dr → vw h = vw h0 → jX m_X8_at 1 0 0 24 [] [] h 0 0 Q := by
  intro  h    J Sm D EV
  unfold d_X8_at_r61_c1d_24 at D
  refine x_iconst (v := 0) rfl ki_0 ?_
  refine x_iret rfl rfl ?_
  exact hQ _ _ (jr_of jk_0 (by omega)) J Sm (D.symm.trans (show 0 = (0 : Int32).toInt from by have := jk_0; omega)) EV
set_option maxRecDepth 100000 in
set_option maxHeartbeats 4000000 in
theorem sf_X8_at_r61_c1d {Dy : jH → Prop} {h : jH} {Q : Option Value → jH → Prop} {dr : Int} {a1 : Int32} (y1 : 0 ≤ a1.toInt ∧ a1.toInt ≤ 99) (hD : jDk Dy) (J : jJ jSgX Dy h) (D : d_X8_at_r61_c1d a1.toInt (vw h) = dr) (hQ : ∀ (v : Int32) hx9, 0 ≤ v.toInt ∧ v.toInt ≤ 399 → jJ jSgX Dy hx9 → jSm fp_X8_at_r61_c1d h hx9 → dr = v.toInt → vw hx9 = vw h → Q (some (.int v)) hx9) : jC m_X8_at 1 0 0 [.ref 61, .int a1, .int 1] h Q := by
  refine jC.of rfl k_X8_at rfl ?_
  have Sm := jSm_rf fp_X8_at_r61_c1d h
  show jX m_X8_at 1 0 0 0 [(0, .ref 61), (1, .int a1), (2, .int 1)] [] _ 0 0 _
  unfold d_X8_at_r61_c1d at D
  have EV : vw h = vw h := rfl
  refine x_iloadn (x := a1) rfl rfl ?_
  refine x_iflt (tgt := 24) rfl rfl (ti_lt rfl jk_0 (br_f (by omega) ?_))
  refine x_iloadn (x := a1) rfl rfl ?_
  refine x_aloadn (x := 61) rfl rfl ?_
  refine z_getI (N := 4) 8 3 rfl f_8_7 rfl J rfl sg_61_3_4_1_0_1 (fun v1 qv1 ev1 => ?_)
  try rw [vrf qv1] at D
  refine x_icge (tgt := 24) rfl rfl (ti_ge rfl rfl ⟨fun c2 => ?_, fun c2 => ?_⟩)
  ·
    rw [if_pos (by omega)] at D
    exact jX.sub jsb_n (ct_X8_at_r61_c1d_24 hD hQ  h J Sm D EV)
  ·
    rw [if_neg (by omega)] at D
    refine x_iloadn (x := 1) rfl rfl ?_
    refine x_iflt (tgt := 24) rfl rfl (ti_lt jk_1 jk_0 (br_f (by omega) ?_))
    refine x_iloadn (x := 1) rfl rfl ?_
    refine x_aloadn (x := 61) rfl rfl ?_
    refine z_getC (N := 4) (v := 4) 8 0 rfl f_8_19 rfl J rfl sg_61_0_1_1_0_1 jk_4 ?_
    refine x_iclt (tgt := 26) rfl rfl (ti_lt jk_1 jk_4 (br_t (by omega) ?_))
    refine x_aloadn (x := 61) rfl rfl ?_
    refine z_getR (N := 4) (b := 62) 8 2 rfl f_8_25 rfl J rfl 7810 ⟨rfl, rfl⟩ rfl ?_
    refine x_iloadn (x := a1) rfl rfl ?_
    refine x_aloadn (x := 61) rfl rfl ?_
    refine z_getC (N := 4) (v := 4) 8 0 rfl f_8_19 rfl J rfl sg_61_0_1_1_0_1 jk_4 ?_
    refine z_imul rfl rfl jk_4 (by omega) (fun v3 ev3 => ?_)
    refine x_iloadn (x := 1) rfl rfl ?_
    refine z_iadd rfl rfl jk_1 (by omega) (fun v4 ev4 => ?_)
    refine z_iald (N := 400) rfl J rfl sg_62_0_400_4_1_2 rfl (by omega) (fun v5 qv5 ev5 => ?_)
    try rw [vrd qv5 (show ((a1.toInt * 4) + 1) = v4.toInt from by omega)] at D
    refine x_iret rfl rfl ?_
    exact hQ _ _ (jr_of rfl (by omega)) J Sm (D.symm.trans (show v5.toInt = v5.toInt from by omega)) EV
def fp_X8_at_r61_c2d : jFp := []
set_option maxRecDepth 100000 in
set_option maxHeartbeats 4000000 in
theorem ct_X8_at_r61_c2d_24 {Dy : jH → Prop} {h0 : jH} {Q : Option Value → jH → Prop} {dr : Int} (hD : jDk Dy) (hQ : ∀ (v : Int32) hx9, 0 ≤ v.toInt ∧ v.toInt ≤ 2 → jJ jSgX Dy hx9 → jSm fp_X8_at_r61_c2d h0 hx9 → dr = v.toInt → vw hx9 = vw h0 → Q (some (.int v)) hx9) : ∀ (h : jH), jJ jSgX Dy h → jSm fp_X8_at_r61_c2d h0 h → d_X8_at_r61_c2d_24  (vw h) = dr → vw h = vw h0 → jX m_X8_at 1 0 0 24 [] [] h 0 0 Q := by
  intro  h    J Sm D EV
  unfold d_X8_at_r61_c2d_24 at D
  refine x_iconst (v := 0) rfl ki_0 ?_
  refine x_iret rfl rfl ?_
  exact hQ _ _ (jr_of jk_0 (by omega)) J Sm (D.symm.trans (show 0 = (0 : Int32).toInt from by have := jk_0; omega)) EV
set_option maxRecDepth 100000 in
set_option maxHeartbeats 4000000 in
theorem sf_X8_at_r61_c2d {Dy : jH → Prop} {h : jH} {Q : Option Value → jH → Prop} {dr : Int} {a1 : Int32} (y1 : 0 ≤ a1.toInt ∧ a1.toInt ≤ 99) (hD : jDk Dy) (J : jJ jSgX Dy h) (D : d_X8_at_r61_c2d a1.toInt (vw h) = dr) (hQ : ∀ (v : Int32) hx9, 0 ≤ v.toInt ∧ v.toInt ≤ 2 → jJ jSgX Dy hx9 → jSm fp_X8_at_r61_c2d h hx9 → dr = v.toInt → vw hx9 = vw h → Q (some (.int v)) hx9) : jC m_X8_at 1 0 0 [.ref 61, .int a1, .int 2] h Q := by
  refine jC.of rfl k_X8_at rfl ?_
  have Sm := jSm_rf fp_X8_at_r61_c2d h
  show jX m_X8_at 1 0 0 0 [(0, .ref 61), (1, .int a1), (2, .int 2)] [] _ 0 0 _
  unfold d_X8_at_r61_c2d at D
  have EV : vw h = vw h := rfl
  refine x_iloadn (x := a1) rfl rfl ?_
  refine x_iflt (tgt := 24) rfl rfl (ti_lt rfl jk_0 (br_f (by omega) ?_))
  refine x_iloadn (x := a1) rfl rfl ?_
  refine x_aloadn (x := 61) rfl rfl ?_
  refine z_getI (N := 4) 8 3 rfl f_8_7 rfl J rfl sg_61_3_4_1_0_1 (fun v1 qv1 ev1 => ?_)
  try rw [vrf qv1] at D
  refine x_icge (tgt := 24) rfl rfl (ti_ge rfl rfl ⟨fun c2 => ?_, fun c2 => ?_⟩)
  ·
    rw [if_pos (by omega)] at D
    exact jX.sub jsb_n (ct_X8_at_r61_c2d_24 hD hQ  h J Sm D EV)
  ·
    rw [if_neg (by omega)] at D
    refine x_iloadn (x := 2) rfl rfl ?_
    refine x_iflt (tgt := 24) rfl rfl (ti_lt jk_2 jk_0 (br_f (by omega) ?_))
    refine x_iloadn (x := 2) rfl rfl ?_
    refine x_aloadn (x := 61) rfl rfl ?_
    refine z_getC (N := 4) (v := 4) 8 0 rfl f_8_19 rfl J rfl sg_61_0_1_1_0_1 jk_4 ?_
    refine x_iclt (tgt := 26) rfl rfl (ti_lt jk_2 jk_4 (br_t (by omega) ?_))
    refine x_aloadn (x := 61) rfl rfl ?_
    refine z_getR (N := 4) (b := 62) 8 2 rfl f_8_25 rfl J rfl 7810 ⟨rfl, rfl⟩ rfl ?_
    refine x_iloadn (x := a1) rfl rfl ?_
    refine x_aloadn (x := 61) rfl rfl ?_
    refine z_getC (N := 4) (v := 4) 8 0 rfl f_8_19 rfl J rfl sg_61_0_1_1_0_1 jk_4 ?_
    refine z_imul rfl rfl jk_4 (by omega) (fun v3 ev3 => ?_)
    refine x_iloadn (x := 2) rfl rfl ?_
    refine z_iadd rfl rfl jk_2 (by omega) (fun v4 ev4 => ?_)
    refine z_iald (N := 400) rfl J rfl sg_62_0_400_4_2_3 rfl (by omega) (fun v5 qv5 ev5 => ?_)
    try rw [vrd qv5 (show ((a1.toInt * 4) + 2) = v4.toInt from by omega)] at D
    refine x_iret rfl rfl ?_
    exact hQ _ _ (jr_of rfl (by omega)) J Sm (D.symm.trans (show v5.toInt = v5.toInt from by omega)) EV
def fp_X8_at_r61_c3d : jFp := []
set_option maxRecDepth 100000 in
set_option maxHeartbeats 4000000 in
theorem ct_X8_at_r61_c3d_24 {Dy : jH → Prop} {h0 : jH} {Q : Option Value → jH → Prop} {dr : Int} (hD : jDk Dy) (hQ : ∀ (v : Int32) hx9, 0 ≤ v.toInt ∧ v.toInt ≤ 10000 → jJ jSgX Dy hx9 → jSm fp_X8_at_r61_c3d h0 hx9 → dr = v.toInt → vw hx9 = vw h0 → Q (some (.int v)) hx9) : ∀ (h : jH), jJ jSgX Dy h → jSm fp_X8_at_r61_c3d h0 h → d_X8_at_r61_c3d_24  (vw h) = dr → vw h = vw h0 → jX m_X8_at 1 0 0 24 [] [] h 0 0 Q := by
  intro  h    J Sm D EV
  unfold d_X8_at_r61_c3d_24 at D
  refine x_iconst (v := 0) rfl ki_0 ?_
  refine x_iret rfl rfl ?_
  exact hQ _ _ (jr_of jk_0 (by omega)) J Sm (D.symm.trans (show 0 = (0 : Int32).toInt from by have := jk_0; omega)) EV
set_option maxRecDepth 100000 in
set_option maxHeartbeats 4000000 in
theorem sf_X8_at_r61_c3d {Dy : jH → Prop} {h : jH} {Q : Option Value → jH → Prop} {dr : Int} {a1 : Int32} (y1 : 0 ≤ a1.toInt ∧ a1.toInt ≤ 99) (hD : jDk Dy) (J : jJ jSgX Dy h) (D : d_X8_at_r61_c3d a1.toInt (vw h) = dr) (hQ : ∀ (v : Int32) hx9, 0 ≤ v.toInt ∧ v.toInt ≤ 10000 → jJ jSgX Dy hx9 → jSm fp_X8_at_r61_c3d h hx9 → dr = v.toInt → vw hx9 = vw h → Q (some (.int v)) hx9) : jC m_X8_at 1 0 0 [.ref 61, .int a1, .int 3] h Q := by
  refine jC.of rfl k_X8_at rfl ?_
  have Sm := jSm_rf fp_X8_at_r61_c3d h
  show jX m_X8_at 1 0 0 0 [(0, .ref 61), (1, .int a1), (2, .int 3)] [] _ 0 0 _
  unfold d_X8_at_r61_c3d at D
  have EV : vw h = vw h := rfl
  refine x_iloadn (x := a1) rfl rfl ?_
  refine x_iflt (tgt := 24) rfl rfl (ti_lt rfl jk_0 (br_f (by omega) ?_))
  refine x_iloadn (x := a1) rfl rfl ?_
  refine x_aloadn (x := 61) rfl rfl ?_
  refine z_getI (N := 4) 8 3 rfl f_8_7 rfl J rfl sg_61_3_4_1_0_1 (fun v1 qv1 ev1 => ?_)
  try rw [vrf qv1] at D
  refine x_icge (tgt := 24) rfl rfl (ti_ge rfl rfl ⟨fun c2 => ?_, fun c2 => ?_⟩)
  ·
    rw [if_pos (by omega)] at D
    exact jX.sub jsb_n (ct_X8_at_r61_c3d_24 hD hQ  h J Sm D EV)
  ·
    rw [if_neg (by omega)] at D
    refine x_iloadn (x := 3) rfl rfl ?_
    refine x_iflt (tgt := 24) rfl rfl (ti_lt jk_3 jk_0 (br_f (by omega) ?_))
    refine x_iloadn (x := 3) rfl rfl ?_
    refine x_aloadn (x := 61) rfl rfl ?_
    refine z_getC (N := 4) (v := 4) 8 0 rfl f_8_19 rfl J rfl sg_61_0_1_1_0_1 jk_4 ?_
    refine x_iclt (tgt := 26) rfl rfl (ti_lt jk_3 jk_4 (br_t (by omega) ?_))
    refine x_aloadn (x := 61) rfl rfl ?_
    refine z_getR (N := 4) (b := 62) 8 2 rfl f_8_25 rfl J rfl 7810 ⟨rfl, rfl⟩ rfl ?_
    refine x_iloadn (x := a1) rfl rfl ?_
    refine x_aloadn (x := 61) rfl rfl ?_
    refine z_getC (N := 4) (v := 4) 8 0 rfl f_8_19 rfl J rfl sg_61_0_1_1_0_1 jk_4 ?_
    refine z_imul rfl rfl jk_4 (by omega) (fun v3 ev3 => ?_)
    refine x_iloadn (x := 3) rfl rfl ?_
    refine z_iadd rfl rfl jk_3 (by omega) (fun v4 ev4 => ?_)
    refine z_iald (N := 400) rfl J rfl sg_62_0_400_4_3_4 rfl (by omega) (fun v5 qv5 ev5 => ?_)
    try rw [vrd qv5 (show ((a1.toInt * 4) + 3) = v4.toInt from by omega)] at D
    refine x_iret rfl rfl ?_
    exact hQ _ _ (jr_of rfl (by omega)) J Sm (D.symm.trans (show v5.toInt = v5.toInt from by omega)) EV
def fp_X8_isKnown_r61d : jFp := []
set_option maxRecDepth 100000 in
set_option maxHeartbeats 4000000 in
theorem ct_X8_isKnown_r61d_300032 {Dy : jH → Prop} {h0 : jH} {Q : Option Value → jH → Prop} {dr : Int} (hD : jDk Dy) (hQ : ∀ (v : Int32) hx9, 0 ≤ v.toInt ∧ v.toInt ≤ 1 → jJ jSgX Dy hx9 → jSm fp_X8_isKnown_r61d h0 hx9 → dr = v.toInt → vw hx9 = vw h0 → Q (some (.int v)) hx9) : ∀ (h : jH), jJ jSgX Dy h → jSm fp_X8_isKnown_r61d h0 h → d_X8_isKnown_r61d_300032  (vw h) = dr → vw h = vw h0 → jX m_X8_isKnown 1 0 0 32 [] [.int 1] h 0 0 Q := by
  intro  h    J Sm D EV
  unfold d_X8_isKnown_r61d_300032 at D
  refine x_zret rfl rfl (by decide) ?_
  exact hQ _ _ (jr_of jk_1 (by omega)) J Sm (D.symm.trans (show 1 = (1 : Int32).toInt from by have := jk_1; omega)) EV
set_option maxRecDepth 100000 in
set_option maxHeartbeats 4000000 in
theorem ct_X8_isKnown_r61d_200032 {Dy : jH → Prop} {h0 : jH} {Q : Option Value → jH → Prop} {dr : Int} (hD : jDk Dy) (hQ : ∀ (v : Int32) hx9, 0 ≤ v.toInt ∧ v.toInt ≤ 1 → jJ jSgX Dy hx9 → jSm fp_X8_isKnown_r61d h0 hx9 → dr = v.toInt → vw hx9 = vw h0 → Q (some (.int v)) hx9) : ∀ (h : jH), jJ jSgX Dy h → jSm fp_X8_isKnown_r61d h0 h → d_X8_isKnown_r61d_200032  (vw h) = dr → vw h = vw h0 → jX m_X8_isKnown 1 0 0 32 [] [.int 0] h 0 0 Q := by
  intro  h    J Sm D EV
  unfold d_X8_isKnown_r61d_200032 at D
  refine x_zret rfl rfl (by decide) ?_
  exact hQ _ _ (jr_of jk_0 (by omega)) J Sm (D.symm.trans (show 0 = (0 : Int32).toInt from by have := jk_0; omega)) EV
set_option maxRecDepth 100000 in
set_option maxHeartbeats 4000000 in
theorem ct_X8_isKnown_r61d_31 {Dy : jH → Prop} {h0 : jH} {Q : Option Value → jH → Prop} {dr : Int} (hD : jDk Dy) (hQ : ∀ (v : Int32) hx9, 0 ≤ v.toInt ∧ v.toInt ≤ 1 → jJ jSgX Dy hx9 → jSm fp_X8_isKnown_r61d h0 hx9 → dr = v.toInt → vw hx9 = vw h0 → Q (some (.int v)) hx9) : ∀ (h : jH), jJ jSgX Dy h → jSm fp_X8_isKnown_r61d h0 h → d_X8_isKnown_r61d_31  (vw h) = dr → vw h = vw h0 → jX m_X8_isKnown 1 0 0 31 [] [] h 0 0 Q := by
  intro  h    J Sm D EV
  unfold d_X8_isKnown_r61d_31 at D
  refine x_iconst (v := 0) rfl ki_0 ?_
  exact jX.sub jsb_n (ct_X8_isKnown_r61d_200032 hD hQ  h J Sm D EV)
set_option maxRecDepth 100000 in
set_option maxHeartbeats 4000000 in
theorem sf_X8_isKnown_r61d {Dy : jH → Prop} {h : jH} {Q : Option Value → jH → Prop} {dr : Int} {a1 : Int32} {a2 : Int32} (y1 : 0 ≤ a1.toInt ∧ a1.toInt ≤ 99) (y2 : 0 ≤ a2.toInt ∧ a2.toInt ≤ 146399) (hD : jDk Dy) (J : jJ jSgX Dy h) (D : d_X8_isKnown_r61d a1.toInt a2.toInt (vw h) = dr) (hQ : ∀ (v : Int32) hx9, 0 ≤ v.toInt ∧ v.toInt ≤ 1 → jJ jSgX Dy hx9 → jSm fp_X8_isKnown_r61d h hx9 → dr = v.toInt → vw hx9 = vw h → Q (some (.int v)) hx9) : jC m_X8_isKnown 1 0 0 [.ref 61, .int a1, .int a2] h Q := by
  refine jC.of rfl k_X8_isKnown rfl ?_
  have Sm := jSm_rf fp_X8_isKnown_r61d h
  show jX m_X8_isKnown 1 0 0 0 [(0, .ref 61), (1, .int a1), (2, .int a2)] [] _ 0 0 _
  unfold d_X8_isKnown_r61d at D
  have EV : vw h = vw h := rfl
  refine x_iloadn (x := a1) rfl rfl ?_
  refine x_iflt (tgt := 31) rfl rfl (ti_lt rfl jk_0 (br_f (by omega) ?_))
  refine x_iloadn (x := a1) rfl rfl ?_
  refine x_aloadn (x := 61) rfl rfl ?_
  refine z_getI (N := 4) 8 3 rfl f_8_7 rfl J rfl sg_61_3_4_1_0_1 (fun v1 qv1 ev1 => ?_)
  try rw [vrf qv1] at D
  refine x_icge (tgt := 31) rfl rfl (ti_ge rfl rfl ⟨fun c2 => ?_, fun c2 => ?_⟩)
  ·
    rw [if_pos (by omega)] at D
    exact jX.sub jsb_n (ct_X8_isKnown_r61d_31 hD hQ  h J Sm D EV)
  ·
    rw [if_neg (by omega)] at D
    refine x_aloadn (x := 61) rfl rfl ?_
    refine z_getR (N := 4) (b := 62) 8 2 rfl f_8_25 rfl J rfl 7810 ⟨rfl, rfl⟩ rfl ?_
    refine x_iloadn (x := a1) rfl rfl ?_
    refine x_aloadn (x := 61) rfl rfl ?_
    refine z_getC (N := 4) (v := 4) 8 0 rfl f_8_19 rfl J rfl sg_61_0_1_1_0_1 jk_4 ?_
    refine z_imul rfl rfl jk_4 (by omega) (fun v3 ev3 => ?_)
    refine z_iald (N := 400) rfl J rfl sg_62_0_400_4_0_1 rfl (by omega) (fun v4 qv4 ev4 => ?_)
    try rw [vrd qv4 (show (a1.toInt * 4) = v3.toInt from by omega)] at D
    refine x_iloadn (x := a2) rfl rfl ?_
    refine x_icgt (tgt := 31) rfl rfl (ti_gt rfl rfl ⟨fun c5 => ?_, fun c5 => ?_⟩)
    ·
      rw [if_pos (by omega)] at D
      exact jX.sub jsb_n (ct_X8_isKnown_r61d_31 hD hQ  h J Sm D EV)
    ·
      rw [if_neg (by omega)] at D
      refine x_iconst (v := 1) rfl ki_1 ?_
      refine x_goto (tgt := 32) rfl rfl ?_
      exact jX.sub jsb_n (ct_X8_isKnown_r61d_300032 hD hQ  h J Sm D EV)
def fp_X11_priceOf_r31d : jFp := []
set_option maxRecDepth 100000 in
set_option maxHeartbeats 4000000 in
theorem ct_X11_priceOf_r31d_83 {Dy : jH → Prop} {h0 : jH} {Q : Option Value → jH → Prop} {dr : Int} {K14 : Int → Int → Int → Int → jW → Int} {R14 : Int} (hD : jDk Dy) (hQ : ∀ (v : Int32) hx9, (-1) ≤ v.toInt ∧ v.toInt ≤ 10000 → jJ jSgX Dy hx9 → jSm fp_X11_priceOf_r31d h0 hx9 → dr = v.toInt → vw hx9 = vw h0 → Q (some (.int v)) hx9) (k14 : ∀ (l1 : Int32) (l2 : Int32) (l3 : Int32) (l4 : Int32) (h : jH), l4.toInt - (-1) < R14 → 0 ≤ l1.toInt ∧ l1.toInt ≤ 2 → 0 ≤ l2.toInt ∧ l2.toInt ≤ 398 → 0 ≤ l3.toInt ∧ l3.toInt ≤ 146399 → (-1) ≤ l4.toInt ∧ l4.toInt ≤ 99 → jJ jSgX Dy h → jSm fp_X11_priceOf_r31d h0 h → K14 l1.toInt l2.toInt l3.toInt l4.toInt (vw h) = dr → vw h = vw h0 → jX m_X11_priceOf 2 0 0 14 [(0, .ref 31), (1, .int l1), (2, .int l2), (3, .int l3), (4, .int l4)] [] h 0 0 Q) : ∀ (l1 : Int32) (l2 : Int32) (l3 : Int32) (l4 : Int32) (h : jH), 0 ≤ l1.toInt ∧ l1.toInt ≤ 2 → 0 ≤ l2.toInt ∧ l2.toInt ≤ 398 → 0 ≤ l3.toInt ∧ l3.toInt ≤ 146399 → 0 ≤ l4.toInt ∧ l4.toInt ≤ 99 → l4.toInt - (-1) ≤ R14 → jJ jSgX Dy h → jSm fp_X11_priceOf_r31d h0 h → d_X11_priceOf_r31d_83 K14  l1.toInt l2.toInt l3.toInt l4.toInt (vw h) = dr → vw h = vw h0 → jX m_X11_priceOf 2 0 0 83 [(0, .ref 31), (1, .int l1), (2, .int l2), (3, .int l3), (4, .int l4)] [] h 0 0 Q := by
  intro l1 l2 l3 l4 h y0 y1 y2 y3  m14 J Sm D EV
  unfold d_X11_priceOf_r31d_83 at D
  refine z_iinc (x := l4) (lsx9 := fun v1 => [(4, .int v1), (0, .ref 31), (1, .int l1), (2, .int l2), (3, .int l3)]) rfl rfl rfl jko_m1 (by omega) rfl (fun _ => rfl) (fun v1 ev1 => ?_)
  refine x_goto (tgt := 14) rfl rfl ?_
  try rw [show (l4.toInt + (-1)) = v1.toInt from by omega] at D
  exact jX.sub (jsb_c rfl (jsb_c rfl (jsb_c rfl (jsb_c rfl (jsb_c rfl jsb_n))))) (k14 l1 l2 l3 v1 h (by omega) (jr_of rfl (by omega)) (jr_of rfl (by omega)) (jr_of rfl (by omega)) (jr_of rfl (by omega)) J Sm D EV)
set_option maxRecDepth 100000 in
set_option maxHeartbeats 4000000 in
theorem ct_X11_priceOf_r31d_14 {Dy : jH → Prop} {h0 : jH} {Q : Option Value → jH → Prop} {dr : Int} (hD : jDk Dy) (hQ : ∀ (v : Int32) hx9, (-1) ≤ v.toInt ∧ v.toInt ≤ 10000 → jJ jSgX Dy hx9 → jSm fp_X11_priceOf_r31d h0 hx9 → dr = v.toInt → vw hx9 = vw h0 → Q (some (.int v)) hx9) : ∀ r : Nat, ∀ (l1 : Int32) (l2 : Int32) (l3 : Int32) (l4 : Int32) (h : jH), l4.toInt - (-1) < (r : Int) → 0 ≤ l1.toInt ∧ l1.toInt ≤ 2 → 0 ≤ l2.toInt ∧ l2.toInt ≤ 398 → 0 ≤ l3.toInt ∧ l3.toInt ≤ 146399 → (-1) ≤ l4.toInt ∧ l4.toInt ≤ 99 → jJ jSgX Dy h → jSm fp_X11_priceOf_r31d h0 h → d_X11_priceOf_r31d_14 r l1.toInt l2.toInt l3.toInt l4.toInt (vw h) = dr → vw h = vw h0 → jX m_X11_priceOf 2 0 0 14 [(0, .ref 31), (1, .int l1), (2, .int l2), (3, .int l3), (4, .int l4)] [] h 0 0 Q := by
  intro r
  induction r with
  | zero =>
    intro l1 l2 l3 l4 h hm y0 y1 y2 y3   J Sm D EV
    exfalso
    omega
  | succ r ih =>
    intro l1 l2 l3 l4 h hm y0 y1 y2 y3   J Sm D EV
    rw [d_X11_priceOf_r31d_14.eq_2] at D
    refine x_iload (x := l4) rfl rfl ?_
    refine x_iflt (tgt := 89) rfl rfl (ti_lt rfl jk_0 ⟨fun c1 => ?_, fun c1 => ?_⟩)
    ·
      rw [if_pos (by omega)] at D
      refine x_iconst (v := (-1)) rfl ki_m1 ?_
      refine x_iret rfl rfl ?_
      exact hQ _ _ (jr_of jk_m1 (by omega)) J Sm (D.symm.trans (show (-1) = ((-1) : Int32).toInt from by have := jk_m1; omega)) EV
    ·
      rw [if_neg (by omega)] at D
      refine x_aloadn (x := 31) rfl rfl ?_
      refine z_getR (N := 13) (b := 32) 11 0 rfl f_11_10 rfl J rfl 3968 ⟨rfl, rfl⟩ rfl ?_
      refine z_getR (N := 20) (b := 61) 1 14 rfl f_11_503 rfl J rfl 4110 ⟨rfl, rfl⟩ rfl ?_
      refine x_iload (x := l4) rfl rfl ?_
      refine x_iconst (v := 1) rfl ki_1 ?_
      refine x_inv (N := m_X8_at) (As := [.int l4, .int 1]) (b := 61) (st := []) (dx9 := 1) (mc := 0) (ms := 0) (host := "") 8 rfl t_X8_at ⟨Or.inl q_11_171, i_X8_at.1, i_X8_at.2⟩ ⟨by decide, rfl⟩ (congrArg Prod.fst (J.1.1 61 (8, 4) rfl)) rfl (by decide) rfl rfl ⟨by decide, by decide⟩ (sf_X8_at_r61_c1d (jr_of rfl (by omega)) hD J rfl  (fun v5 h ev5 J S2 X3 X4 => ?_))
      have Sm := jSm_tr rfl Sm S2
      try rw [X3] at D
      try rw [← X4] at D
      have EV := X4.trans EV
      show jX m_X11_priceOf 2 0 0 32 [(0, .ref 31), (1, .int l1), (2, .int l2), (3, .int l3), (4, .int l4)] [.int v5] _ 0 0 _
      refine x_iloadn (x := l2) rfl rfl ?_
      refine x_icne (tgt := 83) rfl rfl (ti_ne rfl rfl ⟨fun c6 => ?_, fun c6 => ?_⟩)
      ·
        rw [if_neg (by omega)] at D
        exact jX.sub (jsb_c rfl (jsb_c rfl (jsb_c rfl (jsb_c rfl (jsb_c rfl jsb_n))))) (ct_X11_priceOf_r31d_83 hD hQ ih l1 l2 l3 l4 h (jr_of rfl (by omega)) (jr_of rfl (by omega)) (jr_of rfl (by omega)) (jr_of rfl (by omega)) (by omega) J Sm D EV)
      ·
        rw [if_pos (by omega)] at D
        refine x_aloadn (x := 31) rfl rfl ?_
        refine z_getR (N := 13) (b := 32) 11 0 rfl f_11_10 rfl J rfl 3968 ⟨rfl, rfl⟩ rfl ?_
        refine z_getR (N := 20) (b := 61) 1 14 rfl f_11_503 rfl J rfl 4110 ⟨rfl, rfl⟩ rfl ?_
        refine x_iload (x := l4) rfl rfl ?_
        refine x_iconst (v := 2) rfl ki_2 ?_
        refine x_inv (N := m_X8_at) (As := [.int l4, .int 2]) (b := 61) (st := []) (dx9 := 1) (mc := 0) (ms := 0) (host := "") 8 rfl t_X8_at ⟨Or.inl q_11_171, i_X8_at.1, i_X8_at.2⟩ ⟨by decide, rfl⟩ (congrArg Prod.fst (J.1.1 61 (8, 4) rfl)) rfl (by decide) rfl rfl ⟨by decide, by decide⟩ (sf_X8_at_r61_c2d (jr_of rfl (by omega)) hD J rfl  (fun v10 h ev10 J S7 X8 X9 => ?_))
        have Sm := jSm_tr rfl Sm S7
        try rw [X8] at D
        try rw [← X9] at D
        have EV := X9.trans EV
        show jX m_X11_priceOf 2 0 0 49 [(0, .ref 31), (1, .int l1), (2, .int l2), (3, .int l3), (4, .int l4)] [.int v10] _ 0 0 _
        refine x_iloadn (x := l1) rfl rfl ?_
        refine x_icne (tgt := 83) rfl rfl (ti_ne rfl rfl ⟨fun c11 => ?_, fun c11 => ?_⟩)
        ·
          rw [if_neg (by omega)] at D
          exact jX.sub (jsb_c rfl (jsb_c rfl (jsb_c rfl (jsb_c rfl (jsb_c rfl jsb_n))))) (ct_X11_priceOf_r31d_83 hD hQ ih l1 l2 l3 l4 h (jr_of rfl (by omega)) (jr_of rfl (by omega)) (jr_of rfl (by omega)) (jr_of rfl (by omega)) (by omega) J Sm D EV)
        ·
          rw [if_pos (by omega)] at D
          refine x_aloadn (x := 31) rfl rfl ?_
          refine z_getR (N := 13) (b := 32) 11 0 rfl f_11_10 rfl J rfl 3968 ⟨rfl, rfl⟩ rfl ?_
          refine z_getR (N := 20) (b := 61) 1 14 rfl f_11_503 rfl J rfl 4110 ⟨rfl, rfl⟩ rfl ?_
          refine x_iload (x := l4) rfl rfl ?_
          refine x_iloadn (x := l3) rfl rfl ?_
          refine x_inv (N := m_X8_isKnown) (As := [.int l4, .int l3]) (b := 61) (st := []) (dx9 := 1) (mc := 0) (ms := 0) (host := "") 8 rfl t_X8_isKnown ⟨Or.inl q_11_440, i_X8_isKnown.1, i_X8_isKnown.2⟩ ⟨by decide, rfl⟩ (congrArg Prod.fst (J.1.1 61 (8, 4) rfl)) rfl (by decide) rfl rfl ⟨by decide, by decide⟩ (sf_X8_isKnown_r61d (jr_of rfl (by omega)) (jr_of rfl (by omega)) hD J rfl  (fun v15 h ev15 J S12 X13 X14 => ?_))
          have Sm := jSm_tr rfl Sm S12
          try rw [X13] at D
          try rw [← X14] at D
          have EV := X14.trans EV
          show jX m_X11_priceOf 2 0 0 66 [(0, .ref 31), (1, .int l1), (2, .int l2), (3, .int l3), (4, .int l4)] [.int v15] _ 0 0 _
          refine x_ifeq (tgt := 83) rfl rfl (ti_eq rfl jk_0 ⟨fun c16 => ?_, fun c16 => ?_⟩)
          ·
            rw [if_pos (by omega)] at D
            exact jX.sub (jsb_c rfl (jsb_c rfl (jsb_c rfl (jsb_c rfl (jsb_c rfl jsb_n))))) (ct_X11_priceOf_r31d_83 hD hQ ih l1 l2 l3 l4 h (jr_of rfl (by omega)) (jr_of rfl (by omega)) (jr_of rfl (by omega)) (jr_of rfl (by omega)) (by omega) J Sm D EV)
          ·
            rw [if_neg (by omega)] at D
            refine x_aloadn (x := 31) rfl rfl ?_
            refine z_getR (N := 13) (b := 32) 11 0 rfl f_11_10 rfl J rfl 3968 ⟨rfl, rfl⟩ rfl ?_
            refine z_getR (N := 20) (b := 61) 1 14 rfl f_11_503 rfl J rfl 4110 ⟨rfl, rfl⟩ rfl ?_
            refine x_iload (x := l4) rfl rfl ?_
            refine x_iconst (v := 3) rfl ki_3 ?_
            refine x_inv (N := m_X8_at) (As := [.int l4, .int 3]) (b := 61) (st := []) (dx9 := 1) (mc := 0) (ms := 0) (host := "") 8 rfl t_X8_at ⟨Or.inl q_11_171, i_X8_at.1, i_X8_at.2⟩ ⟨by decide, rfl⟩ (congrArg Prod.fst (J.1.1 61 (8, 4) rfl)) rfl (by decide) rfl rfl ⟨by decide, by decide⟩ (sf_X8_at_r61_c3d (jr_of rfl (by omega)) hD J rfl  (fun v20 h ev20 J S17 X18 X19 => ?_))
            have Sm := jSm_tr rfl Sm S17
            try rw [X18] at D
            try rw [← X19] at D
            have EV := X19.trans EV
            show jX m_X11_priceOf 2 0 0 82 [(0, .ref 31), (1, .int l1), (2, .int l2), (3, .int l3), (4, .int l4)] [.int v20] _ 0 0 _
            refine x_iret rfl rfl ?_
            exact hQ _ _ (jr_of rfl (by omega)) J Sm (D.symm.trans (show v20.toInt = v20.toInt from by omega)) EV
set_option maxRecDepth 100000 in
set_option maxHeartbeats 4000000 in
theorem sf_X11_priceOf_r31d {Dy : jH → Prop} {h : jH} {Q : Option Value → jH → Prop} {dr : Int} {a1 : Int32} {a2 : Int32} {a3 : Int32} (y1 : 0 ≤ a1.toInt ∧ a1.toInt ≤ 2) (y2 : 0 ≤ a2.toInt ∧ a2.toInt ≤ 398) (y3 : 0 ≤ a3.toInt ∧ a3.toInt ≤ 146399) (hD : jDk Dy) (J : jJ jSgX Dy h) (D : d_X11_priceOf_r31d a1.toInt a2.toInt a3.toInt (vw h) = dr) (hQ : ∀ (v : Int32) hx9, (-1) ≤ v.toInt ∧ v.toInt ≤ 10000 → jJ jSgX Dy hx9 → jSm fp_X11_priceOf_r31d h hx9 → dr = v.toInt → vw hx9 = vw h → Q (some (.int v)) hx9) : jC m_X11_priceOf 2 0 0 [.ref 31, .int a1, .int a2, .int a3] h Q := by
  refine jC.of rfl k_X11_priceOf rfl ?_
  have Sm := jSm_rf fp_X11_priceOf_r31d h
  show jX m_X11_priceOf 2 0 0 0 [(0, .ref 31), (1, .int a1), (2, .int a2), (3, .int a3)] [] _ 0 0 _
  unfold d_X11_priceOf_r31d at D
  have EV : vw h = vw h := rfl
  refine x_aloadn (x := 31) rfl rfl ?_
  refine z_getR (N := 13) (b := 32) 11 0 rfl f_11_10 rfl J rfl 3968 ⟨rfl, rfl⟩ rfl ?_
  refine z_getR (N := 20) (b := 61) 1 14 rfl f_11_503 rfl J rfl 4110 ⟨rfl, rfl⟩ rfl ?_
  refine z_getI (N := 4) 8 3 rfl f_11_142 rfl J rfl sg_61_3_4_1_0_1 (fun v1 qv1 ev1 => ?_)
  try rw [vrf qv1] at D
  refine x_iconst (v := 1) rfl ki_1 ?_
  refine z_isub rfl rfl jk_1 (by omega) (fun v2 ev2 => ?_)
  refine x_istore (lsx9 := [(4, .int v2), (0, .ref 31), (1, .int a1), (2, .int a2), (3, .int a3)]) rfl rfl rfl ?_
  try rw [show (v1.toInt - 1) = v2.toInt from by omega] at D
  exact jX.sub (jsb_c rfl (jsb_c rfl (jsb_c rfl (jsb_c rfl (jsb_c rfl jsb_n))))) (ct_X11_priceOf_r31d_14 hD hQ  101 a1 a2 a3 v2 h (by omega) (jr_of rfl (by omega)) (jr_of rfl (by omega)) (jr_of rfl (by omega)) (jr_of rfl (by omega)) J Sm D EV)
def fp_X11_coin_r31d : jFp := []
set_option maxRecDepth 100000 in
set_option maxHeartbeats 4000000 in
theorem ct_X11_coin_r31d_22 {Dy : jH → Prop} {h0 : jH} {Q : Option Value → jH → Prop} {dr : Int} (hD : jDk Dy) (hQ : ∀ (v : Int32) hx9, jJ jSgX Dy hx9 → jSm fp_X11_coin_r31d h0 hx9 → dr = v.toInt → vw hx9 = vw h0 → Q (some (.int v)) hx9) : ∀ (h : jH), jJ jSgX Dy h → jSm fp_X11_coin_r31d h0 h → d_X11_coin_r31d_22  (vw h) = dr → vw h = vw h0 → jX m_X11_coin 3 0 0 22 [] [] h 0 0 Q := by
  intro  h    J Sm D EV
  unfold d_X11_coin_r31d_22 at D
  refine x_iconst (v := (-1)) rfl ki_m1 ?_
  refine x_iret rfl rfl ?_
  exact hQ _ _ J Sm (D.symm.trans (show (-1) = ((-1) : Int32).toInt from by have := jk_m1; omega)) EV
set_option maxRecDepth 100000 in
set_option maxHeartbeats 4000000 in
theorem ct_X11_coin_r31d_125 {Dy : jH → Prop} {h0 : jH} {Q : Option Value → jH → Prop} {dr : Int} {K30 : Int → Int → Int → Int → Int → jW → Int} {R30 : Int} (hD : jDk Dy) (hQ : ∀ (v : Int32) hx9, jJ jSgX Dy hx9 → jSm fp_X11_coin_r31d h0 hx9 → dr = v.toInt → vw hx9 = vw h0 → Q (some (.int v)) hx9) (k30 : ∀ (l1 : Int32) (l2 : Int32) (l3 : Int32) (l4 : Int64) (l6 : Int32) (h : jH), 3 - l6.toInt < R30 → 0 ≤ l1.toInt ∧ l1.toInt ≤ 39 → 0 ≤ l2.toInt ∧ l2.toInt ≤ 399 → 0 ≤ l3.toInt ∧ l3.toInt ≤ 146399 → 0 ≤ l6.toInt ∧ l6.toInt ≤ 3 → jJ jSgX Dy h → jSm fp_X11_coin_r31d h0 h → K30 l1.toInt l2.toInt l3.toInt l4.toInt l6.toInt (vw h) = dr → vw h = vw h0 → jX m_X11_coin 3 0 0 30 [(0, .ref 31), (1, .int l1), (2, .int l2), (3, .int l3), (4, .long l4), (6, .int l6)] [] h 0 0 Q) : ∀ (l1 : Int32) (l2 : Int32) (l3 : Int32) (l4 : Int64) (l6 : Int32) (h : jH), 0 ≤ l1.toInt ∧ l1.toInt ≤ 39 → 0 ≤ l2.toInt ∧ l2.toInt ≤ 399 → 0 ≤ l3.toInt ∧ l3.toInt ≤ 146399 → 0 ≤ l6.toInt ∧ l6.toInt ≤ 2 → 3 - l6.toInt ≤ R30 → jJ jSgX Dy h → jSm fp_X11_coin_r31d h0 h → d_X11_coin_r31d_125 K30  l1.toInt l2.toInt l3.toInt l4.toInt l6.toInt (vw h) = dr → vw h = vw h0 → jX m_X11_coin 3 0 0 125 [(0, .ref 31), (1, .int l1), (2, .int l2), (3, .int l3), (4, .long l4), (6, .int l6)] [] h 0 0 Q := by
  intro l1 l2 l3 l4 l6 h y0 y1 y2 y3  m30 J Sm D EV
  have el4 := jfullL l4
  unfold d_X11_coin_r31d_125 at D
  refine z_iinc (x := l6) (lsx9 := fun v1 => [(6, .int v1), (0, .ref 31), (1, .int l1), (2, .int l2), (3, .int l3), (4, .long l4)]) rfl rfl rfl jko_1 (by omega) rfl (fun _ => rfl) (fun v1 ev1 => ?_)
  refine x_goto (tgt := 30) rfl rfl ?_
  try rw [show (l6.toInt + 1) = v1.toInt from by omega] at D
  exact jX.sub (jsb_c rfl (jsb_c rfl (jsb_c rfl (jsb_c rfl (jsb_c rfl (jsb_c rfl jsb_n)))))) (k30 l1 l2 l3 l4 v1 h (by omega) (jr_of rfl (by omega)) (jr_of rfl (by omega)) (jr_of rfl (by omega)) (jr_of rfl (by omega)) J Sm D EV)
set_option maxRecDepth 100000 in
set_option maxHeartbeats 4000000 in
theorem ct_X11_coin_r31d_86 {Dy : jH → Prop} {h0 : jH} {Q : Option Value → jH → Prop} {dr : Int} {K30 : Int → Int → Int → Int → Int → jW → Int} {K52 : Int → Int → Int → Int → Int → Int → Int → Int → jW → Int} {R30 : Int} {R52 : Int} (hD : jDk Dy) (hQ : ∀ (v : Int32) hx9, jJ jSgX Dy hx9 → jSm fp_X11_coin_r31d h0 hx9 → dr = v.toInt → vw hx9 = vw h0 → Q (some (.int v)) hx9) (k30 : ∀ (l1 : Int32) (l2 : Int32) (l3 : Int32) (l4 : Int64) (l6 : Int32) (h : jH), 3 - l6.toInt < R30 → 0 ≤ l1.toInt ∧ l1.toInt ≤ 39 → 0 ≤ l2.toInt ∧ l2.toInt ≤ 399 → 0 ≤ l3.toInt ∧ l3.toInt ≤ 146399 → 0 ≤ l6.toInt ∧ l6.toInt ≤ 3 → jJ jSgX Dy h → jSm fp_X11_coin_r31d h0 h → K30 l1.toInt l2.toInt l3.toInt l4.toInt l6.toInt (vw h) = dr → vw h = vw h0 → jX m_X11_coin 3 0 0 30 [(0, .ref 31), (1, .int l1), (2, .int l2), (3, .int l3), (4, .long l4), (6, .int l6)] [] h 0 0 Q) (k52 : ∀ (l1 : Int32) (l2 : Int32) (l3 : Int32) (l4 : Int64) (l6 : Int32) (l7 : Int64) (l9 : Int32) (l10 : Int32) (h : jH), 399 - l10.toInt < R52 → 0 ≤ l1.toInt ∧ l1.toInt ≤ 39 → 0 ≤ l2.toInt ∧ l2.toInt ≤ 399 → 0 ≤ l3.toInt ∧ l3.toInt ≤ 146399 → 0 ≤ l6.toInt ∧ l6.toInt ≤ 2 → 0 ≤ l10.toInt ∧ l10.toInt ≤ 399 → 3 - l6.toInt ≤ R30 → jJ jSgX Dy h → jSm fp_X11_coin_r31d h0 h → K52 l1.toInt l2.toInt l3.toInt l4.toInt l6.toInt l7.toInt l9.toInt l10.toInt (vw h) = dr → vw h = vw h0 → jX m_X11_coin 3 0 0 52 [(0, .ref 31), (1, .int l1), (2, .int l2), (3, .int l3), (4, .long l4), (6, .int l6), (7, .long l7), (9, .int l9), (10, .int l10)] [] h 0 0 Q) : ∀ (l1 : Int32) (l2 : Int32) (l3 : Int32) (l4 : Int64) (l6 : Int32) (l7 : Int64) (l9 : Int32) (l10 : Int32) (h : jH), 0 ≤ l1.toInt ∧ l1.toInt ≤ 39 → 1 ≤ l2.toInt ∧ l2.toInt ≤ 399 → 0 ≤ l3.toInt ∧ l3.toInt ≤ 146399 → 0 ≤ l6.toInt ∧ l6.toInt ≤ 2 → 0 ≤ l10.toInt ∧ l10.toInt ≤ 398 → 3 - l6.toInt ≤ R30 → 399 - l10.toInt ≤ R52 → jJ jSgX Dy h → jSm fp_X11_coin_r31d h0 h → d_X11_coin_r31d_86 K30 K52  l1.toInt l2.toInt l3.toInt l4.toInt l6.toInt l7.toInt l9.toInt l10.toInt (vw h) = dr → vw h = vw h0 → jX m_X11_coin 3 0 0 86 [(0, .ref 31), (1, .int l1), (2, .int l2), (3, .int l3), (4, .long l4), (6, .int l6), (7, .long l7), (9, .int l9), (10, .int l10)] [] h 0 0 Q := by
  intro l1 l2 l3 l4 l6 l7 l9 l10 h y0 y1 y2 y3 y4  m30 m52 J Sm D EV
  have el4 := jfullL l4
  have el7 := jfullL l7
  have el9 := jfull l9
  unfold d_X11_coin_r31d_86 at D
  refine z_iinc (x := l10) (lsx9 := fun v1 => [(10, .int v1), (0, .ref 31), (1, .int l1), (2, .int l2), (3, .int l3), (4, .long l4), (6, .int l6), (7, .long l7), (9, .int l9)]) rfl rfl rfl jko_1 (by omega) rfl (fun _ => rfl) (fun v1 ev1 => ?_)
  refine x_goto (tgt := 52) rfl rfl ?_
  try rw [show (l10.toInt + 1) = v1.toInt from by omega] at D
  exact jX.sub (jsb_c rfl (jsb_c rfl (jsb_c rfl (jsb_c rfl (jsb_c rfl (jsb_c rfl (jsb_c rfl (jsb_c rfl (jsb_c rfl jsb_n))))))))) (k52 l1 l2 l3 l4 l6 l7 l9 v1 h (by omega) (jr_of rfl (by omega)) (jr_of rfl (by omega)) (jr_of rfl (by omega)) (jr_of rfl (by omega)) (jr_of rfl (by omega)) (by omega) J Sm D EV)
set_option maxRecDepth 100000 in
set_option maxHeartbeats 4000000 in
theorem ct_X11_coin_r31d_52 {Dy : jH → Prop} {h0 : jH} {Q : Option Value → jH → Prop} {dr : Int} {K30 : Int → Int → Int → Int → Int → jW → Int} {R30 : Int} (hD : jDk Dy) (hQ : ∀ (v : Int32) hx9, jJ jSgX Dy hx9 → jSm fp_X11_coin_r31d h0 hx9 → dr = v.toInt → vw hx9 = vw h0 → Q (some (.int v)) hx9) (k30 : ∀ (l1 : Int32) (l2 : Int32) (l3 : Int32) (l4 : Int64) (l6 : Int32) (h : jH), 3 - l6.toInt < R30 → 0 ≤ l1.toInt ∧ l1.toInt ≤ 39 → 0 ≤ l2.toInt ∧ l2.toInt ≤ 399 → 0 ≤ l3.toInt ∧ l3.toInt ≤ 146399 → 0 ≤ l6.toInt ∧ l6.toInt ≤ 3 → jJ jSgX Dy h → jSm fp_X11_coin_r31d h0 h → K30 l1.toInt l2.toInt l3.toInt l4.toInt l6.toInt (vw h) = dr → vw h = vw h0 → jX m_X11_coin 3 0 0 30 [(0, .ref 31), (1, .int l1), (2, .int l2), (3, .int l3), (4, .long l4), (6, .int l6)] [] h 0 0 Q) : ∀ r : Nat, ∀ (l1 : Int32) (l2 : Int32) (l3 : Int32) (l4 : Int64) (l6 : Int32) (l7 : Int64) (l9 : Int32) (l10 : Int32) (h : jH), 399 - l10.toInt < (r : Int) → 0 ≤ l1.toInt ∧ l1.toInt ≤ 39 → 0 ≤ l2.toInt ∧ l2.toInt ≤ 399 → 0 ≤ l3.toInt ∧ l3.toInt ≤ 146399 → 0 ≤ l6.toInt ∧ l6.toInt ≤ 2 → 0 ≤ l10.toInt ∧ l10.toInt ≤ 399 → 3 - l6.toInt ≤ R30 → jJ jSgX Dy h → jSm fp_X11_coin_r31d h0 h → d_X11_coin_r31d_52 K30 r l1.toInt l2.toInt l3.toInt l4.toInt l6.toInt l7.toInt l9.toInt l10.toInt (vw h) = dr → vw h = vw h0 → jX m_X11_coin 3 0 0 52 [(0, .ref 31), (1, .int l1), (2, .int l2), (3, .int l3), (4, .long l4), (6, .int l6), (7, .long l7), (9, .int l9), (10, .int l10)] [] h 0 0 Q := by
  intro r
  induction r with
  | zero =>
    intro l1 l2 l3 l4 l6 l7 l9 l10 h hm y0 y1 y2 y3 y4  m30 J Sm D EV
    exfalso
    have el4 := jfullL l4
    have el7 := jfullL l7
    have el9 := jfull l9
    omega
  | succ r ih =>
    intro l1 l2 l3 l4 l6 l7 l9 l10 h hm y0 y1 y2 y3 y4  m30 J Sm D EV
    have el4 := jfullL l4
    have el7 := jfullL l7
    have el9 := jfull l9
    rw [d_X11_coin_r31d_52.eq_2] at D
    refine x_iload (x := l10) rfl rfl ?_
    refine x_iloadn (x := l2) rfl rfl ?_
    refine x_icge (tgt := 92) rfl rfl (ti_ge rfl rfl ⟨fun c1 => ?_, fun c1 => ?_⟩)
    ·
      rw [if_pos (by omega)] at D
      refine x_iload (x := l9) rfl rfl ?_
      refine x_ifle (tgt := 125) rfl rfl (ti_le rfl jk_0 ⟨fun c2 => ?_, fun c2 => ?_⟩)
      ·
        rw [if_pos (by omega)] at D
        exact jX.sub (jsb_c rfl (jsb_c rfl (jsb_c rfl (jsb_c rfl (jsb_c rfl (jsb_c rfl jsb_n)))))) (ct_X11_coin_r31d_125 hD hQ k30 l1 l2 l3 l4 l6 h (jr_of rfl (by omega)) (jr_of rfl (by omega)) (jr_of rfl (by omega)) (jr_of rfl (by omega)) (by omega) J Sm D EV)
      ·
        rw [if_neg (by omega)] at D
        refine x_lload (x := l4) rfl rfl ?_
        refine x_aloadn (x := 31) rfl rfl ?_
        refine z_getR (N := 13) (b := 123) 11 10 rfl f_11_86 rfl J rfl 3978 ⟨rfl, rfl⟩ rfl ?_
        refine x_iloadn (x := l1) rfl rfl ?_
        refine x_iconst (v := 3) rfl ki_3 ?_
        refine z_imul rfl rfl jk_3 (by omega) (fun v3 ev3 => ?_)
        refine x_iload (x := l6) rfl rfl ?_
        refine z_iadd rfl rfl rfl (by omega) (fun v4 ev4 => ?_)
        refine z_iald (N := 120) rfl J rfl sg_123_0_120_1_0_1 rfl (by omega) (fun v5 qv5 ev5 => ?_)
        try rw [vrd qv5 (show ((l1.toInt * 3) + l6.toInt) = v4.toInt from by omega)] at D
        refine z_i2l rfl rfl (fun v6 ev6 => ?_)
        refine x_lload (x := l7) rfl rfl ?_
        refine z_lmulW rfl rfl rfl (fun v7 ev7 => ?_)
        have fv7 := jfullL v7
        try rw [show v5.toInt = v6.toInt from by omega] at D
        try rw [← ev7] at D
        refine x_sipush (v := 420) rfl ks_420 ?_
        refine x_iload (x := l9) rfl rfl ?_
        refine z_idivQ rfl jk_420 rfl (by omega) (by omega) (fun v8 ev8 => ?_)
        try rw [← ev8.1] at D
        refine z_i2l rfl rfl (fun v9 ev9 => ?_)
        refine z_lmulW rfl rfl rfl (fun v10 ev10 => ?_)
        have fv10 := jfullL v10
        try rw [show v8.toInt = v9.toInt from by omega] at D
        try rw [← ev10] at D
        refine z_laddW rfl rfl rfl (fun v11 ev11 => ?_)
        have fv11 := jfullL v11
        try rw [← ev11] at D
        refine x_lstore (lsx9 := [(4, .long v11), (0, .ref 31), (1, .int l1), (2, .int l2), (3, .int l3), (6, .int l6), (7, .long l7), (9, .int l9), (10, .int l10)]) rfl rfl rfl ?_
        exact jX.sub (jsb_c rfl (jsb_c rfl (jsb_c rfl (jsb_c rfl (jsb_c rfl (jsb_c rfl jsb_n)))))) (ct_X11_coin_r31d_125 hD hQ k30 l1 l2 l3 v11 l6 h (jr_of rfl (by omega)) (jr_of rfl (by omega)) (jr_of rfl (by omega)) (jr_of rfl (by omega)) (by omega) J Sm D EV)
    ·
      rw [if_neg (by omega)] at D
      refine x_aloadn (x := 31) rfl rfl ?_
      refine x_iload (x := l6) rfl rfl ?_
      refine x_iload (x := l10) rfl rfl ?_
      refine x_iloadn (x := l3) rfl rfl ?_
      refine x_inv (N := m_X11_priceOf) (As := [.int l6, .int l10, .int l3]) (b := 31) (st := []) (dx9 := 2) (mc := 0) (ms := 0) (host := "") 11 rfl t_X11_priceOf ⟨Or.inl q_11_506, i_X11_priceOf.1, i_X11_priceOf.2⟩ ⟨by decide, rfl⟩ (congrArg Prod.fst (J.1.1 31 (11, 13) rfl)) rfl (by decide) rfl rfl ⟨by decide, by decide⟩ (sf_X11_priceOf_r31d (jr_of rfl (by omega)) (jr_of rfl (by omega)) (jr_of rfl (by omega)) hD J rfl  (fun v15 h ev15 J S12 X13 X14 => ?_))
      have Sm := jSm_tr rfl Sm S12
      try rw [X13] at D
      try rw [← X14] at D
      have EV := X14.trans EV
      show jX m_X11_coin 3 0 0 67 [(0, .ref 31), (1, .int l1), (2, .int l2), (3, .int l3), (4, .long l4), (6, .int l6), (7, .long l7), (9, .int l9), (10, .int l10)] [.int v15] _ 0 0 _
      refine x_istore (lsx9 := [(11, .int v15), (0, .ref 31), (1, .int l1), (2, .int l2), (3, .int l3), (4, .long l4), (6, .int l6), (7, .long l7), (9, .int l9), (10, .int l10)]) rfl rfl rfl ?_
      refine x_iload (x := v15) rfl rfl ?_
      refine x_iconst (v := (-1)) rfl ki_m1 ?_
      refine x_iceq (tgt := 86) rfl rfl (ti_eq rfl jk_m1 ⟨fun c16 => ?_, fun c16 => ?_⟩)
      ·
        rw [if_pos (by omega)] at D
        exact jX.sub (jsb_c rfl (jsb_c rfl (jsb_c rfl (jsb_c rfl (jsb_c rfl (jsb_c rfl (jsb_c rfl (jsb_c rfl (jsb_c rfl jsb_n))))))))) (ct_X11_coin_r31d_86 hD hQ k30 ih l1 l2 l3 l4 l6 l7 l9 l10 h (jr_of rfl (by omega)) (jr_of rfl (by omega)) (jr_of rfl (by omega)) (jr_of rfl (by omega)) (jr_of rfl (by omega)) (by omega) (by omega) J Sm D EV)
      ·
        rw [if_neg (by omega)] at D
        refine x_lload (x := l7) rfl rfl ?_
        refine x_iload (x := v15) rfl rfl ?_
        refine z_i2l rfl rfl (fun v17 ev17 => ?_)
        refine z_laddW rfl rfl rfl (fun v18 ev18 => ?_)
        have fv18 := jfullL v18
        try rw [show v15.toInt = v17.toInt from by omega] at D
        try rw [← ev18] at D
        refine x_lstore (lsx9 := [(7, .long v18), (11, .int v15), (0, .ref 31), (1, .int l1), (2, .int l2), (3, .int l3), (4, .long l4), (6, .int l6), (9, .int l9), (10, .int l10)]) rfl rfl rfl ?_
        refine z_iincW (x := l9) (lsx9 := fun v19 => [(9, .int v19), (7, .long v18), (11, .int v15), (0, .ref 31), (1, .int l1), (2, .int l2), (3, .int l3), (4, .long l4), (6, .int l6), (10, .int l10)]) rfl rfl rfl jko_1 rfl (fun _ => rfl) (fun v19 ev19 => ?_)
        have fv19 := jfull v19
        try rw [← ev19] at D
        exact jX.sub (jsb_c rfl (jsb_c rfl (jsb_c rfl (jsb_c rfl (jsb_c rfl (jsb_c rfl (jsb_c rfl (jsb_c rfl (jsb_c rfl jsb_n))))))))) (ct_X11_coin_r31d_86 hD hQ k30 ih l1 l2 l3 l4 l6 v18 v19 l10 h (jr_of rfl (by omega)) (jr_of rfl (by omega)) (jr_of rfl (by omega)) (jr_of rfl (by omega)) (jr_of rfl (by omega)) (by omega) (by omega) J Sm D EV)
set_option maxRecDepth 100000 in
set_option maxHeartbeats 4000000 in
theorem ct_X11_coin_r31d_30 {Dy : jH → Prop} {h0 : jH} {Q : Option Value → jH → Prop} {dr : Int} (hD : jDk Dy) (hQ : ∀ (v : Int32) hx9, jJ jSgX Dy hx9 → jSm fp_X11_coin_r31d h0 hx9 → dr = v.toInt → vw hx9 = vw h0 → Q (some (.int v)) hx9) : ∀ r : Nat, ∀ (l1 : Int32) (l2 : Int32) (l3 : Int32) (l4 : Int64) (l6 : Int32) (h : jH), 3 - l6.toInt < (r : Int) → 0 ≤ l1.toInt ∧ l1.toInt ≤ 39 → 0 ≤ l2.toInt ∧ l2.toInt ≤ 399 → 0 ≤ l3.toInt ∧ l3.toInt ≤ 146399 → 0 ≤ l6.toInt ∧ l6.toInt ≤ 3 → jJ jSgX Dy h → jSm fp_X11_coin_r31d h0 h → d_X11_coin_r31d_30 r l1.toInt l2.toInt l3.toInt l4.toInt l6.toInt (vw h) = dr → vw h = vw h0 → jX m_X11_coin 3 0 0 30 [(0, .ref 31), (1, .int l1), (2, .int l2), (3, .int l3), (4, .long l4), (6, .int l6)] [] h 0 0 Q := by
  intro r
  induction r with
  | zero =>
    intro l1 l2 l3 l4 l6 h hm y0 y1 y2 y3   J Sm D EV
    exfalso
    have el4 := jfullL l4
    omega
  | succ r ih =>
    intro l1 l2 l3 l4 l6 h hm y0 y1 y2 y3   J Sm D EV
    have el4 := jfullL l4
    rw [d_X11_coin_r31d_30.eq_2] at D
    refine x_iload (x := l6) rfl rfl ?_
    refine x_iconst (v := 3) rfl ki_3 ?_
    refine x_icge (tgt := 131) rfl rfl (ti_ge rfl jk_3 ⟨fun c1 => ?_, fun c1 => ?_⟩)
    ·
      rw [if_pos (by omega)] at D
      refine x_lload (x := l4) rfl rfl ?_
      refine x_ldc2 (v := 4200) rfl z_11_509 ?_
      refine z_ldivW rfl rfl jkl_4200 (by omega) (fun v2 ev2 => ?_)
      have fv2 := jfullL v2
      try rw [← ev2] at D
      refine z_l2iD rfl rfl (fun v3 ev3 => ?_)
      have fv3 := jfull v3
      try rw [← ev3] at D
      refine x_iret rfl rfl ?_
      exact hQ _ _ J Sm (D.symm.trans (show v3.toInt = v3.toInt from by omega)) EV
    ·
      rw [if_neg (by omega)] at D
      refine x_lconst (v := 0) rfl kl_0 ?_
      refine x_lstore (lsx9 := [(7, .long 0), (0, .ref 31), (1, .int l1), (2, .int l2), (3, .int l3), (4, .long l4), (6, .int l6)]) rfl rfl rfl ?_
      refine x_iconst (v := 0) rfl ki_0 ?_
      refine x_istore (lsx9 := [(9, .int 0), (7, .long 0), (0, .ref 31), (1, .int l1), (2, .int l2), (3, .int l3), (4, .long l4), (6, .int l6)]) rfl rfl rfl ?_
      refine x_iconst (v := 0) rfl ki_0 ?_
      refine x_iloadn (x := l2) rfl rfl ?_
      refine x_bipush (v := 7) rfl kb_7 ?_
      refine z_isub rfl rfl jk_7 (by omega) (fun v4 ev4 => ?_)
      refine z_mmax rfl q_11_193 (by decide) rfl jk_0 rfl (fun v5 ev5 => ?_)
      refine x_istore (lsx9 := [(10, .int v5), (9, .int 0), (7, .long 0), (0, .ref 31), (1, .int l1), (2, .int l2), (3, .int l3), (4, .long l4), (6, .int l6)]) rfl rfl rfl ?_
      try rw [show (max 0 (l2.toInt - 7)) = v5.toInt from by omega] at D
      exact jX.sub (jsb_c rfl (jsb_c rfl (jsb_c rfl (jsb_c rfl (jsb_c rfl (jsb_c rfl (jsb_c rfl (jsb_c rfl (jsb_c rfl jsb_n))))))))) (ct_X11_coin_r31d_52 hD hQ ih 400 l1 l2 l3 l4 l6 0 0 v5 h (by omega) (jr_of rfl (by omega)) (jr_of rfl (by omega)) (jr_of rfl (by omega)) (jr_of rfl (by omega)) (jr_of rfl (by omega)) (by omega) J Sm (by rw [jkl_0, jk_0]; exact D) EV)
set_option maxRecDepth 100000 in
set_option maxHeartbeats 4000000 in
theorem sf_X11_coin_r31d {Dy : jH → Prop} {h : jH} {Q : Option Value → jH → Prop} {dr : Int} {a1 : Int32} {a2 : Int32} {a3 : Int32} (hD : jDk Dy) (J : jJ jSgX Dy h) (D : d_X11_coin_r31d a1.toInt a2.toInt a3.toInt (vw h) = dr) (hQ : ∀ (v : Int32) hx9, jJ jSgX Dy hx9 → jSm fp_X11_coin_r31d h hx9 → dr = v.toInt → vw hx9 = vw h → Q (some (.int v)) hx9) : jC m_X11_coin 3 0 0 [.ref 31, .int a1, .int a2, .int a3] h Q := by
  refine jC.of rfl k_X11_coin rfl ?_
  have Sm := jSm_rf fp_X11_coin_r31d h
  have ea1 := jfull a1
  have ea2 := jfull a2
  have ea3 := jfull a3
  show jX m_X11_coin 3 0 0 0 [(0, .ref 31), (1, .int a1), (2, .int a2), (3, .int a3)] [] _ 0 0 _
  unfold d_X11_coin_r31d at D
  have EV : vw h = vw h := rfl
  refine x_aloadn (x := 31) rfl rfl ?_
  refine x_iloadn (x := a1) rfl rfl ?_
  refine x_inv (N := m_X11_isHolding) (As := [.int a1]) (b := 31) (st := []) (dx9 := 2) (mc := 0) (ms := 0) (host := "") 11 rfl t_X11_isHolding ⟨Or.inl q_11_415, i_X11_isHolding.1, i_X11_isHolding.2⟩ ⟨by decide, rfl⟩ (congrArg Prod.fst (J.1.1 31 (11, 13) rfl)) rfl (by decide) rfl rfl ⟨by decide, by decide⟩ (jC.of rfl k_X11_isHolding rfl ?_)
  show jX m_X11_isHolding 2 0 0 0 [(0, .ref 31), (1, .int a1)] [] _ 0 0 _
  refine x_iloadn (x := a1) rfl rfl ?_
  refine x_iflt (tgt := 28) rfl rfl (ti_lt rfl jk_0 ⟨fun c1 => ?_, fun c1 => ?_⟩)
  ·
    rw [if_pos (by omega)] at D
    refine x_iconst (v := 0) rfl ki_0 ?_
    refine x_zret rfl rfl (by decide) ?_
    show jX m_X11_coin 3 0 0 5 [(0, .ref 31), (1, .int a1), (2, .int a2), (3, .int a3)] [.int 0] _ 0 0 _
    refine x_ifeq (tgt := 22) rfl rfl (ti_eq jk_0 jk_0 (br_t (by omega) ?_))
    exact jX.sub jsb_n (ct_X11_coin_r31d_22 hD hQ  h J Sm D EV)
  ·
    rw [if_neg (by omega)] at D
    refine x_iloadn (x := a1) rfl rfl ?_
    refine x_aloadn (x := 31) rfl rfl ?_
    refine z_getR (N := 13) (b := 32) 11 0 rfl f_11_10 rfl J rfl 3968 ⟨rfl, rfl⟩ rfl ?_
    refine z_getR (N := 20) (b := 49) 1 8 rfl f_11_408 rfl J rfl 4104 ⟨rfl, rfl⟩ rfl ?_
    refine z_getI (N := 4) 8 3 rfl f_11_142 rfl J rfl sg_49_3_4_1_0_1 (fun v2 qv2 ev2 => ?_)
    try rw [vrf qv2] at D
    refine x_icge (tgt := 28) rfl rfl (ti_ge rfl rfl ⟨fun c3 => ?_, fun c3 => ?_⟩)
    ·
      rw [if_pos (by omega)] at D
      refine x_iconst (v := 0) rfl ki_0 ?_
      refine x_zret rfl rfl (by decide) ?_
      show jX m_X11_coin 3 0 0 5 [(0, .ref 31), (1, .int a1), (2, .int a2), (3, .int a3)] [.int 0] _ 0 0 _
      refine x_ifeq (tgt := 22) rfl rfl (ti_eq jk_0 jk_0 (br_t (by omega) ?_))
      exact jX.sub jsb_n (ct_X11_coin_r31d_22 hD hQ  h J Sm D EV)
    ·
      rw [if_neg (by omega)] at D
      refine x_iloadn (x := a1) rfl rfl ?_
      refine x_bipush (v := 40) rfl kb_40 ?_
      refine x_icge (tgt := 28) rfl rfl (ti_ge rfl jk_40 (br_f (by omega) ?_))
      refine x_iconst (v := 1) rfl ki_1 ?_
      refine x_goto (tgt := 29) rfl rfl ?_
      refine x_zret rfl rfl (by decide) ?_
      show jX m_X11_coin 3 0 0 5 [(0, .ref 31), (1, .int a1), (2, .int a2), (3, .int a3)] [.int 1] _ 0 0 _
      refine x_ifeq (tgt := 22) rfl rfl (ti_eq jk_1 jk_0 (br_f (by omega) ?_))
      refine x_iloadn (x := a2) rfl rfl ?_
      refine x_inst (N := m_X11_isYear) (As := [.int a2]) (st := []) (dx9 := 1) (mc := 0) (ms := 0) (host := "") rfl t_X11_isYear ⟨Or.inl q_11_433, s_X11_isYear⟩ rfl (by decide) rfl rfl ⟨by decide, by decide⟩ (zc_X11_isYear rfl (fun v4 ev4 => ?_))
      show jX m_X11_coin 3 0 0 12 [(0, .ref 31), (1, .int a1), (2, .int a2), (3, .int a3)] [.int v4] _ 0 0 _
      refine x_ifeq (tgt := 22) rfl rfl (ti_eq rfl jk_0 ⟨fun c5 => ?_, fun c5 => ?_⟩)
      ·
        rw [if_neg (by omega)] at D
        exact jX.sub jsb_n (ct_X11_coin_r31d_22 hD hQ  h J Sm D EV)
      ·
        rw [if_pos (by omega)] at D
        refine x_iloadn (x := a3) rfl rfl ?_
        refine x_inst (N := m_X11_isDay) (As := [.int a3]) (st := []) (dx9 := 1) (mc := 0) (ms := 0) (host := "") rfl t_X11_isDay ⟨Or.inl q_11_115, s_X11_isDay⟩ rfl (by decide) rfl rfl ⟨by decide, by decide⟩ (zc_X11_isDay rfl (fun v6 ev6 => ?_))
        show jX m_X11_coin 3 0 0 19 [(0, .ref 31), (1, .int a1), (2, .int a2), (3, .int a3)] [.int v6] _ 0 0 _
        refine x_ifne (tgt := 24) rfl rfl (ti_ne rfl jk_0 ⟨fun c7 => ?_, fun c7 => ?_⟩)
        ·
          rw [if_pos (by omega)] at D
          refine x_lconst (v := 0) rfl kl_0 ?_
          refine x_lstore (lsx9 := [(4, .long 0), (0, .ref 31), (1, .int a1), (2, .int a2), (3, .int a3)]) rfl rfl rfl ?_
          refine x_iconst (v := 0) rfl ki_0 ?_
          refine x_istore (lsx9 := [(6, .int 0), (4, .long 0), (0, .ref 31), (1, .int a1), (2, .int a2), (3, .int a3)]) rfl rfl rfl ?_
          exact jX.sub (jsb_c rfl (jsb_c rfl (jsb_c rfl (jsb_c rfl (jsb_c rfl (jsb_c rfl jsb_n)))))) (ct_X11_coin_r31d_30 hD hQ  4 a1 a2 a3 0 0 h (by have := jk_0; omega) (jr_of rfl (by omega)) (jr_of rfl (by omega)) (jr_of rfl (by omega)) (jr_of jk_0 (by omega)) J Sm (by rw [jkl_0, jk_0]; exact D) EV)
        ·
          rw [if_neg (by omega)] at D
          exact jX.sub jsb_n (ct_X11_coin_r31d_22 hD hQ  h J Sm D EV)
def fp_X11_count_r31d : jFp := []
set_option maxRecDepth 100000 in
set_option maxHeartbeats 4000000 in
theorem sf_X11_count_r31d {Dy : jH → Prop} {h : jH} {Q : Option Value → jH → Prop} {dr : Int} {a1 : Int32} (hD : jDk Dy) (J : jJ jSgX Dy h) (D : d_X11_count_r31d a1.toInt (vw h) = dr) (hQ : ∀ (v : Int32) hx9, (-1) ≤ v.toInt ∧ v.toInt ≤ 400 → jJ jSgX Dy hx9 → jSm fp_X11_count_r31d h hx9 → dr = v.toInt → vw hx9 = vw h → Q (some (.int v)) hx9) : jC m_X11_count 1 0 0 [.ref 31, .int a1] h Q := by
  refine jC.of rfl k_X11_count rfl ?_
  have Sm := jSm_rf fp_X11_count_r31d h
  have ea1 := jfull a1
  show jX m_X11_count 1 0 0 0 [(0, .ref 31), (1, .int a1)] [] _ 0 0 _
  unfold d_X11_count_r31d at D
  have EV : vw h = vw h := rfl
  refine x_iloadn (x := a1) rfl rfl ?_
  by_cases c1 : a1.toInt = 0
  ·
    refine x_tableIn (tgt := 64) 0 rfl c1 (by decide) (by decide) rfl rfl ?_
    rw [if_pos c1] at D
    refine x_aloadn (x := 31) rfl rfl ?_
    refine z_getR (N := 13) (b := 32) 11 0 rfl f_11_10 rfl J rfl 3968 ⟨rfl, rfl⟩ rfl ?_
    refine z_getR (N := 20) (b := 33) 1 0 rfl f_11_126 rfl J rfl 4096 ⟨rfl, rfl⟩ rfl ?_
    refine z_getI (N := 4) 8 3 rfl f_11_142 rfl J rfl sg_33_3_4_1_0_1 (fun v2 qv2 ev2 => ?_)
    try rw [vrf qv2] at D
    refine x_iret rfl rfl ?_
    exact hQ _ _ (jr_of rfl (by omega)) J Sm (D.symm.trans (show v2.toInt = v2.toInt from by omega)) EV
  rw [if_neg c1] at D
  by_cases c3 : a1.toInt = 1
  ·
    refine x_tableIn (tgt := 75) 1 rfl c3 (by decide) (by decide) rfl rfl ?_
    rw [if_pos c3] at D
    refine x_aloadn (x := 31) rfl rfl ?_
    refine z_getR (N := 13) (b := 32) 11 0 rfl f_11_10 rfl J rfl 3968 ⟨rfl, rfl⟩ rfl ?_
    refine z_getI (N := 20) 1 18 rfl f_11_325 rfl J rfl sg_32_18_19_1_0_1 (fun v4 qv4 ev4 => ?_)
    try rw [vrf qv4] at D
    refine x_iret rfl rfl ?_
    exact hQ _ _ (jr_of rfl (by omega)) J Sm (D.symm.trans (show v4.toInt = v4.toInt from by omega)) EV
  rw [if_neg c3] at D
  by_cases c5 : a1.toInt = 2
  ·
    refine x_tableIn (tgt := 83) 2 rfl c5 (by decide) (by decide) rfl rfl ?_
    rw [if_pos c5] at D
    refine x_aloadn (x := 31) rfl rfl ?_
    refine z_getR (N := 13) (b := 32) 11 0 rfl f_11_10 rfl J rfl 3968 ⟨rfl, rfl⟩ rfl ?_
    refine z_getR (N := 20) (b := 43) 1 5 rfl f_11_378 rfl J rfl 4101 ⟨rfl, rfl⟩ rfl ?_
    refine z_getI (N := 4) 8 3 rfl f_11_142 rfl J rfl sg_43_3_4_1_0_1 (fun v6 qv6 ev6 => ?_)
    try rw [vrf qv6] at D
    refine x_iret rfl rfl ?_
    exact hQ _ _ (jr_of rfl (by omega)) J Sm (D.symm.trans (show v6.toInt = v6.toInt from by omega)) EV
  rw [if_neg c5] at D
  by_cases c7 : a1.toInt = 3
  ·
    refine x_tableIn (tgt := 94) 3 rfl c7 (by decide) (by decide) rfl rfl ?_
    rw [if_pos c7] at D
    refine x_aloadn (x := 31) rfl rfl ?_
    refine z_getR (N := 13) (b := 32) 11 0 rfl f_11_10 rfl J rfl 3968 ⟨rfl, rfl⟩ rfl ?_
    refine z_getR (N := 20) (b := 49) 1 8 rfl f_11_408 rfl J rfl 4104 ⟨rfl, rfl⟩ rfl ?_
    refine z_getI (N := 4) 8 3 rfl f_11_142 rfl J rfl sg_49_3_4_1_0_1 (fun v8 qv8 ev8 => ?_)
    try rw [vrf qv8] at D
    refine x_iret rfl rfl ?_
    exact hQ _ _ (jr_of rfl (by omega)) J Sm (D.symm.trans (show v8.toInt = v8.toInt from by omega)) EV
  rw [if_neg c7] at D
  by_cases c9 : a1.toInt = 4
  ·
    refine x_tableIn (tgt := 105) 4 rfl c9 (by decide) (by decide) rfl rfl ?_
    rw [if_pos c9] at D
    refine x_aloadn (x := 31) rfl rfl ?_
    refine z_getR (N := 13) (b := 32) 11 0 rfl f_11_10 rfl J rfl 3968 ⟨rfl, rfl⟩ rfl ?_
    refine z_getR (N := 20) (b := 63) 1 15 rfl f_11_159 rfl J rfl 4111 ⟨rfl, rfl⟩ rfl ?_
    refine z_getI (N := 4) 8 3 rfl f_11_142 rfl J rfl sg_63_3_4_1_0_1 (fun v10 qv10 ev10 => ?_)
    try rw [vrf qv10] at D
    refine x_iret rfl rfl ?_
    exact hQ _ _ (jr_of rfl (by omega)) J Sm (D.symm.trans (show v10.toInt = v10.toInt from by omega)) EV
  rw [if_neg c9] at D
  by_cases c11 : a1.toInt = 5
  ·
    refine x_tableIn (tgt := 116) 5 rfl c11 (by decide) (by decide) rfl rfl ?_
    rw [if_pos c11] at D
    refine x_aloadn (x := 31) rfl rfl ?_
    refine z_getR (N := 13) (b := 32) 11 0 rfl f_11_10 rfl J rfl 3968 ⟨rfl, rfl⟩ rfl ?_
    refine z_getR (N := 20) (b := 53) 1 10 rfl f_11_437 rfl J rfl 4106 ⟨rfl, rfl⟩ rfl ?_
    refine z_getI (N := 4) 8 3 rfl f_11_142 rfl J rfl sg_53_3_4_1_0_1 (fun v12 qv12 ev12 => ?_)
    try rw [vrf qv12] at D
    refine x_iret rfl rfl ?_
    exact hQ _ _ (jr_of rfl (by omega)) J Sm (D.symm.trans (show v12.toInt = v12.toInt from by omega)) EV
  rw [if_neg c11] at D
  by_cases c13 : a1.toInt = 6
  ·
    refine x_tableIn (tgt := 127) 6 rfl c13 (by decide) (by decide) rfl rfl ?_
    rw [if_pos c13] at D
    refine x_aloadn (x := 31) rfl rfl ?_
    refine z_getR (N := 13) (b := 32) 11 0 rfl f_11_10 rfl J rfl 3968 ⟨rfl, rfl⟩ rfl ?_
    refine z_getR (N := 20) (b := 39) 1 3 rfl f_11_237 rfl J rfl 4099 ⟨rfl, rfl⟩ rfl ?_
    refine z_getI (N := 4) 8 3 rfl f_11_142 rfl J rfl sg_39_3_4_1_0_1 (fun v14 qv14 ev14 => ?_)
    try rw [vrf qv14] at D
    refine x_iret rfl rfl ?_
    exact hQ _ _ (jr_of rfl (by omega)) J Sm (D.symm.trans (show v14.toInt = v14.toInt from by omega)) EV
  rw [if_neg c13] at D
  by_cases c15 : a1.toInt = 7
  ·
    refine x_tableIn (tgt := 138) 7 rfl c15 (by decide) (by decide) rfl rfl ?_
    rw [if_pos c15] at D
    refine x_aloadn (x := 31) rfl rfl ?_
    refine z_getR (N := 13) (b := 87) 11 5 rfl f_11_50 rfl J rfl 3973 ⟨rfl, rfl⟩ rfl ?_
    refine z_getI (N := 14) 3 3 rfl f_11_273 rfl J rfl sg_87_3_4_1_0_1 (fun v16 qv16 ev16 => ?_)
    try rw [vrf qv16] at D
    refine x_iret rfl rfl ?_
    exact hQ _ _ (jr_of rfl (by omega)) J Sm (D.symm.trans (show v16.toInt = v16.toInt from by omega)) EV
  rw [if_neg c15] at D
  by_cases c17 : a1.toInt = 8
  ·
    refine x_tableIn (tgt := 146) 8 rfl c17 (by decide) (by decide) rfl rfl ?_
    rw [if_pos c17] at D
    refine x_aloadn (x := 31) rfl rfl ?_
    refine z_getR (N := 13) (b := 68) 11 2 rfl f_11_23 rfl J rfl 3970 ⟨rfl, rfl⟩ rfl ?_
    refine z_getI (N := 6) 9 1 rfl f_11_106 rfl J rfl sg_68_1_2_1_0_1 (fun v18 qv18 ev18 => ?_)
    try rw [vrf qv18] at D
    refine x_iret rfl rfl ?_
    exact hQ _ _ (jr_of rfl (by omega)) J Sm (D.symm.trans (show v18.toInt = v18.toInt from by omega)) EV
  rw [if_neg c17] at D
  by_cases c19 : a1.toInt = 9
  ·
    refine x_tableIn (tgt := 154) 9 rfl c19 (by decide) (by decide) rfl rfl ?_
    rw [if_pos c19] at D
    refine x_aloadn (x := 31) rfl rfl ?_
    refine z_getR (N := 13) (b := 32) 11 0 rfl f_11_10 rfl J rfl 3968 ⟨rfl, rfl⟩ rfl ?_
    refine z_getR (N := 20) (b := 45) 1 6 rfl f_11_402 rfl J rfl 4102 ⟨rfl, rfl⟩ rfl ?_
    refine z_getI (N := 4) 8 3 rfl f_11_142 rfl J rfl sg_45_3_4_1_0_1 (fun v20 qv20 ev20 => ?_)
    try rw [vrf qv20] at D
    refine x_iret rfl rfl ?_
    exact hQ _ _ (jr_of rfl (by omega)) J Sm (D.symm.trans (show v20.toInt = v20.toInt from by omega)) EV
  rw [if_neg c19] at D
  by_cases c21 : a1.toInt = 10
  ·
    refine x_tableIn (tgt := 165) 10 rfl c21 (by decide) (by decide) rfl rfl ?_
    rw [if_pos c21] at D
    refine x_aloadn (x := 31) rfl rfl ?_
    refine z_getR (N := 13) (b := 32) 11 0 rfl f_11_10 rfl J rfl 3968 ⟨rfl, rfl⟩ rfl ?_
    refine z_getR (N := 20) (b := 55) 1 11 rfl f_11_452 rfl J rfl 4107 ⟨rfl, rfl⟩ rfl ?_
    refine z_getI (N := 4) 8 3 rfl f_11_142 rfl J rfl sg_55_3_4_1_0_1 (fun v22 qv22 ev22 => ?_)
    try rw [vrf qv22] at D
    refine x_iret rfl rfl ?_
    exact hQ _ _ (jr_of rfl (by omega)) J Sm (D.symm.trans (show v22.toInt = v22.toInt from by omega)) EV
  rw [if_neg c21] at D
  by_cases c23 : a1.toInt = 11
  ·
    refine x_tableIn (tgt := 176) 11 rfl c23 (by decide) (by decide) rfl rfl ?_
    rw [if_pos c23] at D
    refine x_aloadn (x := 31) rfl rfl ?_
    refine z_getR (N := 13) (b := 32) 11 0 rfl f_11_10 rfl J rfl 3968 ⟨rfl, rfl⟩ rfl ?_
    refine z_getR (N := 20) (b := 57) 1 12 rfl f_11_473 rfl J rfl 4108 ⟨rfl, rfl⟩ rfl ?_
    refine z_getI (N := 4) 8 3 rfl f_11_142 rfl J rfl sg_57_3_4_1_0_1 (fun v24 qv24 ev24 => ?_)
    try rw [vrf qv24] at D
    refine x_iret rfl rfl ?_
    exact hQ _ _ (jr_of rfl (by omega)) J Sm (D.symm.trans (show v24.toInt = v24.toInt from by omega)) EV
  rw [if_neg c23] at D
  refine x_tableOut (tgt := 187) rfl (by omega) rfl ?_
  refine x_iconst (v := (-1)) rfl ki_m1 ?_
  refine x_iret rfl rfl ?_
  exact hQ _ _ (jr_of jk_m1 (by omega)) J Sm (D.symm.trans (show (-1) = ((-1) : Int32).toInt from by have := jk_m1; omega)) EV
def fp_X11_counts_r31d : jFp := [(78, 13, 14), (82, 0, 600), (83, 0, 600), (84, 0, 200), (85, 0, 4), (86, 0, 3), (98, 10, 11), (98, 11, 12), (98, 12, 13), (98, 13, 14), (98, 14, 15), (98, 15, 16), (99, 0, 30), (100, 0, 30), (101, 0, 3), (102, 0, 40), (103, 0, 40), (104, 0, 40), (105, 0, 3), (106, 0, 100)]
set_option maxRecDepth 100000 in
set_option maxHeartbeats 4000000 in
theorem ct_X11_counts_r31d_28 {Dy : jH → Prop} {h0 : jH} {Q : Option Value → jH → Prop} {dr : (Int × jW)} (hD : jDk Dy) (hQ : ∀ (v : Int64) hx9, jJ jSgX Dy hx9 → jSm fp_X11_counts_r31d h0 hx9 → dr.1 = v.toInt → dr.2 = vw hx9 → Q (some (.long v)) hx9) : ∀ (h : jH), jJ jSgX Dy h → jSm fp_X11_counts_r31d h0 h → d_X11_counts_r31d_28  (vw h) = dr → jX m_X11_counts 8 0 0 28 [] [] h 0 0 Q := by
  intro  h    J Sm D
  unfold d_X11_counts_r31d_28 at D
  refine x_ldc2 (v := (-2000000000000)) rfl z_11_351 ?_
  refine x_lret rfl rfl ?_
  exact hQ _ _ J Sm ((congrArg Prod.fst D).symm.trans (show (-2000000000000) = ((-2000000000000) : Int64).toInt from by have := jkl_m2000000000000; omega)) (congrArg Prod.snd D).symm
set_option maxRecDepth 100000 in
set_option maxHeartbeats 4000000 in
theorem ct_X11_counts_r31d_125 {Dy : jH → Prop} {h0 : jH} {Q : Option Value → jH → Prop} {dr : (Int × jW)} (hD : jDk Dy) (hQ : ∀ (v : Int64) hx9, jJ jSgX Dy hx9 → jSm fp_X11_counts_r31d h0 hx9 → dr.1 = v.toInt → dr.2 = vw hx9 → Q (some (.long v)) hx9) : ∀ (s0 : Int64) (h : jH), (-2147483648) ≤ s0.toInt ∧ s0.toInt ≤ 2147483647 → jJ jSgX Dy h → jSm fp_X11_counts_r31d h0 h → d_X11_counts_r31d_125  s0.toInt (vw h) = dr → jX m_X11_counts 8 0 0 125 [] [.long s0] h 0 0 Q := by
  intro s0 h y0   J Sm D
  unfold d_X11_counts_r31d_125 at D
  refine x_lret rfl rfl ?_
  exact hQ _ _ J Sm ((congrArg Prod.fst D).symm.trans (show s0.toInt = s0.toInt from by omega)) (congrArg Prod.snd D).symm
set_option maxRecDepth 100000 in
set_option maxHeartbeats 4000000 in
theorem sf_X11_counts_r31d {Dy : jH → Prop} {h : jH} {Q : Option Value → jH → Prop} {dr : (Int × jW)} {a1 : Int32} {a2 : Int32} {a3 : Int32} {a4 : Int32} {a5 : Int32} (hD : jDk Dy) (J : jJ jSgX Dy h) (D : d_X11_counts_r31d a1.toInt a2.toInt a3.toInt a4.toInt a5.toInt (vw h) = dr) (hQ : ∀ (v : Int64) hx9, jJ jSgX Dy hx9 → jSm fp_X11_counts_r31d h hx9 → dr.1 = v.toInt → dr.2 = vw hx9 → Q (some (.long v)) hx9) : jC m_X11_counts 8 0 0 [.ref 31, .int a1, .int a2, .int a3, .int a4, .int a5] h Q := by
  refine jC.of rfl k_X11_counts rfl ?_
  have Sm := jSm_rf fp_X11_counts_r31d h
  have ea1 := jfull a1
  have ea2 := jfull a2
  have ea3 := jfull a3
  have ea4 := jfull a4
  have ea5 := jfull a5
  show jX m_X11_counts 8 0 0 0 [(0, .ref 31), (1, .int a1), (2, .int a2), (3, .int a3), (4, .int a4), (5, .int a5)] [] _ 0 0 _
  unfold d_X11_counts_r31d at D
  refine x_iloadn (x := a1) rfl rfl ?_
  refine x_iflt (tgt := 28) rfl rfl (ti_lt rfl jk_0 ⟨fun c1 => ?_, fun c1 => ?_⟩)
  ·
    rw [if_pos (by omega)] at D
    exact jX.sub jsb_n (ct_X11_counts_r31d_28 hD hQ  h J Sm D)
  ·
    rw [if_neg (by omega)] at D
    refine x_iloadn (x := a1) rfl rfl ?_
    refine x_bipush (v := 7) rfl kb_7 ?_
    refine x_icgt (tgt := 28) rfl rfl (ti_gt rfl jk_7 ⟨fun c2 => ?_, fun c2 => ?_⟩)
    ·
      rw [if_pos (by omega)] at D
      exact jX.sub jsb_n (ct_X11_counts_r31d_28 hD hQ  h J Sm D)
    ·
      rw [if_neg (by omega)] at D
      refine x_iload (x := a5) rfl rfl ?_
      refine x_iflt (tgt := 28) rfl rfl (ti_lt rfl jk_0 ⟨fun c3 => ?_, fun c3 => ?_⟩)
      ·
        rw [if_pos (by omega)] at D
        exact jX.sub jsb_n (ct_X11_counts_r31d_28 hD hQ  h J Sm D)
      ·
        rw [if_neg (by omega)] at D
        refine x_iload (x := a5) rfl rfl ?_
        refine x_iconst (v := 2) rfl ki_2 ?_
        refine x_icgt (tgt := 28) rfl rfl (ti_gt rfl jk_2 ⟨fun c4 => ?_, fun c4 => ?_⟩)
        ·
          rw [if_pos (by omega)] at D
          exact jX.sub jsb_n (ct_X11_counts_r31d_28 hD hQ  h J Sm D)
        ·
          rw [if_neg (by omega)] at D
          refine x_iloadn (x := a3) rfl rfl ?_
          refine x_inst (N := m_X11_isDay) (As := [.int a3]) (st := []) (dx9 := 1) (mc := 0) (ms := 0) (host := "") rfl t_X11_isDay ⟨Or.inl q_11_115, s_X11_isDay⟩ rfl (by decide) rfl rfl ⟨by decide, by decide⟩ (zc_X11_isDay rfl (fun v5 ev5 => ?_))
          show jX m_X11_counts 8 0 0 25 [(0, .ref 31), (1, .int a1), (2, .int a2), (3, .int a3), (4, .int a4), (5, .int a5)] [.int v5] _ 0 0 _
          refine x_ifne (tgt := 32) rfl rfl (ti_ne rfl jk_0 ⟨fun c6 => ?_, fun c6 => ?_⟩)
          ·
            rw [if_pos (by omega)] at D
            refine x_aloadn (x := 31) rfl rfl ?_
            refine x_iloadn (x := a2) rfl rfl ?_
            refine x_iload (x := a4) rfl rfl ?_
            refine x_inv (N := m_X11_soulOn) (As := [.int a2, .int a4]) (b := 31) (st := []) (dx9 := 7) (mc := 0) (ms := 0) (host := "") 11 rfl t_X11_soulOn ⟨Or.inl q_11_234, i_X11_soulOn.1, i_X11_soulOn.2⟩ ⟨by decide, rfl⟩ (congrArg Prod.fst (J.1.1 31 (11, 13) rfl)) rfl (by decide) rfl rfl ⟨by decide, by decide⟩ (jC.of rfl k_X11_soulOn rfl ?_)
            show jX m_X11_soulOn 7 0 0 0 [(0, .ref 31), (1, .int a2), (2, .int a4)] [] _ 0 0 _
            refine x_iloadn (x := a4) rfl rfl ?_
            refine x_inst (N := m_X11_isDay) (As := [.int a4]) (st := []) (dx9 := 1) (mc := 0) (ms := 0) (host := "") rfl t_X11_isDay ⟨Or.inl q_11_115, s_X11_isDay⟩ rfl (by decide) rfl rfl ⟨by decide, by decide⟩ (zc_X11_isDay rfl (fun v7 ev7 => ?_))
            show jX m_X11_soulOn 7 0 0 4 [(0, .ref 31), (1, .int a2), (2, .int a4)] [.int v7] _ 0 0 _
            refine x_ifeq (tgt := 18) rfl rfl (ti_eq rfl jk_0 ⟨fun c8 => ?_, fun c8 => ?_⟩)
            ·
              rw [if_neg (by omega)] at D
              refine x_iconst (v := (-1)) rfl ki_m1 ?_
              refine x_iret rfl rfl ?_
              show jX m_X11_counts 8 0 0 39 [(0, .ref 31), (1, .int a1), (2, .int a2), (3, .int a3), (4, .int a4), (5, .int a5)] [.int (-1)] _ 0 0 _
              refine x_istore (lsx9 := [(6, .int (-1)), (0, .ref 31), (1, .int a1), (2, .int a2), (3, .int a3), (4, .int a4), (5, .int a5)]) rfl rfl rfl ?_
              refine x_iload (x := (-1)) rfl rfl ?_
              refine x_iconst (v := (-1)) rfl ki_m1 ?_
              refine x_icne (tgt := 51) rfl rfl (ti_ne jk_m1 jk_m1 (bn_f (by omega) ?_))
              refine x_ldc2 (v := (-2000000000000)) rfl z_11_351 ?_
              refine x_lret rfl rfl ?_
              exact hQ _ _ J Sm ((congrArg Prod.fst D).symm.trans (show (-2000000000000) = ((-2000000000000) : Int64).toInt from by have := jkl_m2000000000000; omega)) (congrArg Prod.snd D).symm
            ·
              rw [if_pos (by omega)] at D
              refine x_aloadn (x := 31) rfl rfl ?_
              refine z_getR (N := 13) (b := 78) 11 4 rfl f_11_41 rfl J rfl 3972 ⟨rfl, rfl⟩ rfl ?_
              refine x_iloadn (x := a2) rfl rfl ?_
              refine x_inv (N := m_X7_isMention) (As := [.int a2]) (b := 78) (st := []) (dx9 := 6) (mc := 0) (ms := 0) (host := "") 7 rfl t_X7_isMention ⟨Or.inl q_11_187, i_X7_isMention.1, i_X7_isMention.2⟩ ⟨by decide, rfl⟩ (congrArg Prod.fst (J.1.1 78 (7, 16) rfl)) rfl (by decide) rfl rfl ⟨by decide, by decide⟩ (jC.of rfl k_X7_isMention rfl ?_)
              show jX m_X7_isMention 6 0 0 0 [(0, .ref 78), (1, .int a2)] [] _ 0 0 _
              refine x_iloadn (x := a2) rfl rfl ?_
              refine x_iflt (tgt := 41) rfl rfl (ti_lt rfl jk_0 ⟨fun c9 => ?_, fun c9 => ?_⟩)
              ·
                rw [if_pos (by omega)] at D
                refine x_iconst (v := 0) rfl ki_0 ?_
                refine x_zret rfl rfl (by decide) ?_
                show jX m_X11_soulOn 7 0 0 15 [(0, .ref 31), (1, .int a2), (2, .int a4)] [.int 0] _ 0 0 _
                refine x_ifne (tgt := 20) rfl rfl (ti_ne jk_0 jk_0 (bn_f (by omega) ?_))
                refine x_iconst (v := (-1)) rfl ki_m1 ?_
                refine x_iret rfl rfl ?_
                show jX m_X11_counts 8 0 0 39 [(0, .ref 31), (1, .int a1), (2, .int a2), (3, .int a3), (4, .int a4), (5, .int a5)] [.int (-1)] _ 0 0 _
                refine x_istore (lsx9 := [(6, .int (-1)), (0, .ref 31), (1, .int a1), (2, .int a2), (3, .int a3), (4, .int a4), (5, .int a5)]) rfl rfl rfl ?_
                refine x_iload (x := (-1)) rfl rfl ?_
                refine x_iconst (v := (-1)) rfl ki_m1 ?_
                refine x_icne (tgt := 51) rfl rfl (ti_ne jk_m1 jk_m1 (bn_f (by omega) ?_))
                refine x_ldc2 (v := (-2000000000000)) rfl z_11_351 ?_
                refine x_lret rfl rfl ?_
                exact hQ _ _ J Sm ((congrArg Prod.fst D).symm.trans (show (-2000000000000) = ((-2000000000000) : Int64).toInt from by have := jkl_m2000000000000; omega)) (congrArg Prod.snd D).symm
              ·
                rw [if_neg (by omega)] at D
                refine x_iloadn (x := a2) rfl rfl ?_
                refine x_sipush (v := 600) rfl ks_600 ?_
                refine x_icge (tgt := 41) rfl rfl (ti_ge rfl jk_600 ⟨fun c10 => ?_, fun c10 => ?_⟩)
                ·
                  rw [if_pos (by omega)] at D
                  refine x_iconst (v := 0) rfl ki_0 ?_
                  refine x_zret rfl rfl (by decide) ?_
                  show jX m_X11_soulOn 7 0 0 15 [(0, .ref 31), (1, .int a2), (2, .int a4)] [.int 0] _ 0 0 _
                  refine x_ifne (tgt := 20) rfl rfl (ti_ne jk_0 jk_0 (bn_f (by omega) ?_))
                  refine x_iconst (v := (-1)) rfl ki_m1 ?_
                  refine x_iret rfl rfl ?_
                  show jX m_X11_counts 8 0 0 39 [(0, .ref 31), (1, .int a1), (2, .int a2), (3, .int a3), (4, .int a4), (5, .int a5)] [.int (-1)] _ 0 0 _
                  refine x_istore (lsx9 := [(6, .int (-1)), (0, .ref 31), (1, .int a1), (2, .int a2), (3, .int a3), (4, .int a4), (5, .int a5)]) rfl rfl rfl ?_
                  refine x_iload (x := (-1)) rfl rfl ?_
                  refine x_iconst (v := (-1)) rfl ki_m1 ?_
                  refine x_icne (tgt := 51) rfl rfl (ti_ne jk_m1 jk_m1 (bn_f (by omega) ?_))
                  refine x_ldc2 (v := (-2000000000000)) rfl z_11_351 ?_
                  refine x_lret rfl rfl ?_
                  exact hQ _ _ J Sm ((congrArg Prod.fst D).symm.trans (show (-2000000000000) = ((-2000000000000) : Int64).toInt from by have := jkl_m2000000000000; omega)) (congrArg Prod.snd D).symm
                ·
                  rw [if_neg (by omega)] at D
                  refine x_iloadn (x := a2) rfl rfl ?_
                  refine x_iconst (v := 3) rfl ki_3 ?_
                  refine z_idiv rfl rfl jk_3 (by omega) (by omega) (fun v11 ev11 => ?_)
                  refine x_aloadn (x := 78) rfl rfl ?_
                  refine z_getR (N := 16) (b := 32) 7 0 rfl f_7_55 rfl J rfl 9984 ⟨rfl, rfl⟩ rfl ?_
                  refine z_getR (N := 20) (b := 33) 1 0 rfl f_7_63 rfl J rfl 4096 ⟨rfl, rfl⟩ rfl ?_
                  refine z_getI (N := 4) 8 3 rfl f_7_85 rfl J rfl sg_33_3_4_1_0_1 (fun v12 qv12 ev12 => ?_)
                  try rw [vrf qv12] at D
                  refine x_icge (tgt := 41) rfl rfl (ti_ge rfl rfl ⟨fun c13 => ?_, fun c13 => ?_⟩)
                  ·
                    rw [if_pos (by omega)] at D
                    refine x_iconst (v := 0) rfl ki_0 ?_
                    refine x_zret rfl rfl (by decide) ?_
                    show jX m_X11_soulOn 7 0 0 15 [(0, .ref 31), (1, .int a2), (2, .int a4)] [.int 0] _ 0 0 _
                    refine x_ifne (tgt := 20) rfl rfl (ti_ne jk_0 jk_0 (bn_f (by omega) ?_))
                    refine x_iconst (v := (-1)) rfl ki_m1 ?_
                    refine x_iret rfl rfl ?_
                    show jX m_X11_counts 8 0 0 39 [(0, .ref 31), (1, .int a1), (2, .int a2), (3, .int a3), (4, .int a4), (5, .int a5)] [.int (-1)] _ 0 0 _
                    refine x_istore (lsx9 := [(6, .int (-1)), (0, .ref 31), (1, .int a1), (2, .int a2), (3, .int a3), (4, .int a4), (5, .int a5)]) rfl rfl rfl ?_
                    refine x_iload (x := (-1)) rfl rfl ?_
                    refine x_iconst (v := (-1)) rfl ki_m1 ?_
                    refine x_icne (tgt := 51) rfl rfl (ti_ne jk_m1 jk_m1 (bn_f (by omega) ?_))
                    refine x_ldc2 (v := (-2000000000000)) rfl z_11_351 ?_
                    refine x_lret rfl rfl ?_
                    exact hQ _ _ J Sm ((congrArg Prod.fst D).symm.trans (show (-2000000000000) = ((-2000000000000) : Int64).toInt from by have := jkl_m2000000000000; omega)) (congrArg Prod.snd D).symm
                  ·
                    rw [if_neg (by omega)] at D
                    refine x_aloadn (x := 78) rfl rfl ?_
                    refine z_getR (N := 16) (b := 79) 7 7 rfl f_7_27 rfl J rfl 9991 ⟨rfl, rfl⟩ rfl ?_
                    refine x_iloadn (x := a2) rfl rfl ?_
                    refine z_iald (N := 600) rfl J rfl sg_79_0_600_1_0_1 rfl (by omega) (fun v14 qv14 ev14 => ?_)
                    try rw [vrd qv14 (show a2.toInt = a2.toInt from by omega)] at D
                    refine x_iconst (v := (-1)) rfl ki_m1 ?_
                    refine x_iceq (tgt := 41) rfl rfl (ti_eq rfl jk_m1 ⟨fun c15 => ?_, fun c15 => ?_⟩)
                    ·
                      rw [if_pos (by omega)] at D
                      refine x_iconst (v := 0) rfl ki_0 ?_
                      refine x_zret rfl rfl (by decide) ?_
                      show jX m_X11_soulOn 7 0 0 15 [(0, .ref 31), (1, .int a2), (2, .int a4)] [.int 0] _ 0 0 _
                      refine x_ifne (tgt := 20) rfl rfl (ti_ne jk_0 jk_0 (bn_f (by omega) ?_))
                      refine x_iconst (v := (-1)) rfl ki_m1 ?_
                      refine x_iret rfl rfl ?_
                      show jX m_X11_counts 8 0 0 39 [(0, .ref 31), (1, .int a1), (2, .int a2), (3, .int a3), (4, .int a4), (5, .int a5)] [.int (-1)] _ 0 0 _
                      refine x_istore (lsx9 := [(6, .int (-1)), (0, .ref 31), (1, .int a1), (2, .int a2), (3, .int a3), (4, .int a4), (5, .int a5)]) rfl rfl rfl ?_
                      refine x_iload (x := (-1)) rfl rfl ?_
                      refine x_iconst (v := (-1)) rfl ki_m1 ?_
                      refine x_icne (tgt := 51) rfl rfl (ti_ne jk_m1 jk_m1 (bn_f (by omega) ?_))
                      refine x_ldc2 (v := (-2000000000000)) rfl z_11_351 ?_
                      refine x_lret rfl rfl ?_
                      exact hQ _ _ J Sm ((congrArg Prod.fst D).symm.trans (show (-2000000000000) = ((-2000000000000) : Int64).toInt from by have := jkl_m2000000000000; omega)) (congrArg Prod.snd D).symm
                    ·
                      rw [if_neg (by omega)] at D
                      refine x_iconst (v := 1) rfl ki_1 ?_
                      refine x_goto (tgt := 42) rfl rfl ?_
                      refine x_zret rfl rfl (by decide) ?_
                      show jX m_X11_soulOn 7 0 0 15 [(0, .ref 31), (1, .int a2), (2, .int a4)] [.int 1] _ 0 0 _
                      refine x_ifne (tgt := 20) rfl rfl (ti_ne jk_1 jk_0 (bn_t (by omega) ?_))
                      refine x_aloadn (x := 31) rfl rfl ?_
                      refine z_getR (N := 13) (b := 78) 11 4 rfl f_11_41 rfl J rfl 3972 ⟨rfl, rfl⟩ rfl ?_
                      refine x_iloadn (x := a4) rfl rfl ?_
                      refine x_inv (N := m_X7_asKnown) (As := [.int a4]) (b := 78) (st := []) (dx9 := 6) (mc := 0) (ms := 0) (host := "") 7 rfl t_X7_asKnown ⟨Or.inl q_11_240, i_X7_asKnown.1, i_X7_asKnown.2⟩ ⟨by decide, rfl⟩ (congrArg Prod.fst (J.1.1 78 (7, 16) rfl)) rfl (by decide) rfl rfl ⟨by decide, by decide⟩ (sf_X7_asKnown_r78d (jr_of rfl (by omega)) hD J rfl  (fun h J S16 X17 => ?_))
                      have Sm := jSm_tr rfl Sm S16
                      rw [X17] at D
                      show jX m_X11_soulOn 7 0 0 28 [(0, .ref 31), (1, .int a2), (2, .int a4)] [] _ 0 0 _
                      refine x_aloadn (x := 31) rfl rfl ?_
                      refine z_getR (N := 13) (b := 78) 11 4 rfl f_11_41 rfl J rfl 3972 ⟨rfl, rfl⟩ rfl ?_
                      refine z_getR (N := 16) (b := 82) 7 10 rfl f_11_537 rfl J rfl 9994 ⟨rfl, rfl⟩ rfl ?_
                      refine x_iloadn (x := a2) rfl rfl ?_
                      refine z_iald (N := 600) rfl J rfl sg_82_0_600_1_0_1 rfl (by omega) (fun v18 qv18 ev18 => ?_)
                      try rw [vrd qv18 (show a2.toInt = a2.toInt from by omega)] at D
                      refine x_iret rfl rfl ?_
                      show jX m_X11_counts 8 0 0 39 [(0, .ref 31), (1, .int a1), (2, .int a2), (3, .int a3), (4, .int a4), (5, .int a5)] [.int v18] _ 0 0 _
                      refine x_istore (lsx9 := [(6, .int v18), (0, .ref 31), (1, .int a1), (2, .int a2), (3, .int a3), (4, .int a4), (5, .int a5)]) rfl rfl rfl ?_
                      refine x_iload (x := v18) rfl rfl ?_
                      refine x_iconst (v := (-1)) rfl ki_m1 ?_
                      refine x_icne (tgt := 51) rfl rfl (ti_ne rfl jk_m1 ⟨fun c19 => ?_, fun c19 => ?_⟩)
                      ·
                        rw [if_neg (by omega)] at D
                        refine x_aloadn (x := 31) rfl rfl ?_
                        refine z_getR (N := 13) (b := 98) 11 7 rfl f_11_66 rfl J rfl 3975 ⟨rfl, rfl⟩ rfl ?_
                        refine x_iloadn (x := a3) rfl rfl ?_
                        refine x_iload (x := a4) rfl rfl ?_
                        refine x_inv (N := m_X0_turnTo) (As := [.int a3, .int a4]) (b := 98) (st := []) (dx9 := 7) (mc := 0) (ms := 0) (host := "") 0 rfl t_X0_turnTo ⟨Or.inl q_11_345, i_X0_turnTo.1, i_X0_turnTo.2⟩ ⟨by decide, rfl⟩ (congrArg Prod.fst (J.1.1 98 (0, 16) rfl)) rfl (by decide) rfl rfl ⟨by decide, by decide⟩ (jC.of rfl k_X0_turnTo rfl ?_)
                        show jX m_X0_turnTo 7 0 0 0 [(0, .ref 98), (1, .int a3), (2, .int a4)] [] _ 0 0 _
                        refine x_aloadn (x := 98) rfl rfl ?_
                        refine x_iloadn (x := a3) rfl rfl ?_
                        refine x_iloadn (x := a4) rfl rfl ?_
                        refine x_inv (N := m_X0_readLaws) (As := [.int a3, .int a4]) (b := 98) (st := []) (dx9 := 3) (mc := 0) (ms := 0) (host := "") 0 rfl t_X0_readLaws ⟨Or.inl q_0_65, i_X0_readLaws.1, i_X0_readLaws.2⟩ ⟨by decide, rfl⟩ (congrArg Prod.fst (J.1.1 98 (0, 16) rfl)) rfl (by decide) rfl rfl ⟨by decide, by decide⟩ (sf_X0_readLaws_r98d (jr_of rfl (by omega)) (jr_of rfl (by omega)) hD J rfl  (fun h J S20 X21 => ?_))
                        have Sm := jSm_tr rfl Sm S20
                        rw [X21] at D
                        show jX m_X0_turnTo 7 0 0 6 [(0, .ref 98), (1, .int a3), (2, .int a4)] [] _ 0 0 _
                        refine x_aloadn (x := 98) rfl rfl ?_
                        refine x_iloadn (x := a3) rfl rfl ?_
                        refine x_iloadn (x := a4) rfl rfl ?_
                        refine x_inv (N := m_X0_readHouses) (As := [.int a3, .int a4]) (b := 98) (st := []) (dx9 := 3) (mc := 0) (ms := 0) (host := "") 0 rfl t_X0_readHouses ⟨Or.inl q_0_69, i_X0_readHouses.1, i_X0_readHouses.2⟩ ⟨by decide, rfl⟩ (congrArg Prod.fst (J.1.1 98 (0, 16) rfl)) rfl (by decide) rfl rfl ⟨by decide, by decide⟩ (sf_X0_readHouses_r98d (jr_of rfl (by omega)) (jr_of rfl (by omega)) hD J rfl  (fun h J S22 X23 => ?_))
                        have Sm := jSm_tr rfl Sm S22
                        rw [X23] at D
                        show jX m_X0_turnTo 7 0 0 12 [(0, .ref 98), (1, .int a3), (2, .int a4)] [] _ 0 0 _
                        refine x_vret rfl rfl ?_
                        show jX m_X11_counts 8 0 0 61 [(6, .int v18), (0, .ref 31), (1, .int a1), (2, .int a2), (3, .int a3), (4, .int a4), (5, .int a5)] [] _ 0 0 _
                        refine x_aloadn (x := 31) rfl rfl ?_
                        refine z_getR (N := 13) (b := 98) 11 7 rfl f_11_66 rfl J rfl 3975 ⟨rfl, rfl⟩ rfl ?_
                        refine x_gets jst_3 rfl (by decide +kernel) u_11_353 ?_
                        show jX m_X11_counts 8 0 0 68 [(6, .int v18), (0, .ref 31), (1, .int a1), (2, .int a2), (3, .int a3), (4, .int a4), (5, .int a5)] [.ref 3, .ref 98] _ 0 0 _
                        refine x_iloadn (x := a1) rfl rfl ?_
                        refine z_iald (N := 8) rfl J rfl sg_3_0_8_1_0_1 rfl (by omega) (fun v24 qv24 ev24 => ?_)
                        try rw [vrd (jmb_c S16 (jmb_c S20 (jmb_c S22 qv24 rfl) rfl) rfl) (show a1.toInt = a1.toInt from by omega)] at D
                        refine x_gets jst_4 rfl (by decide +kernel) u_11_356 ?_
                        show jX m_X11_counts 8 0 0 73 [(6, .int v18), (0, .ref 31), (1, .int a1), (2, .int a2), (3, .int a3), (4, .int a4), (5, .int a5)] [.ref 4, .int v24, .ref 98] _ 0 0 _
                        refine x_iloadn (x := a1) rfl rfl ?_
                        refine z_iald (N := 8) rfl J rfl sg_4_0_8_1_0_1 rfl (by omega) (fun v25 qv25 ev25 => ?_)
                        try rw [vrd (jmb_c S16 (jmb_c S20 (jmb_c S22 qv25 rfl) rfl) rfl) (show a1.toInt = a1.toInt from by omega)] at D
                        refine x_iload (x := v18) rfl rfl ?_
                        refine x_inv (N := m_X0_weigh) (As := [.int v24, .int v25, .int v18]) (b := 98) (st := []) (dx9 := 6) (mc := 0) (ms := 0) (host := "") 0 rfl t_X0_weigh ⟨Or.inl q_11_359, i_X0_weigh.1, i_X0_weigh.2⟩ ⟨by decide, rfl⟩ (congrArg Prod.fst (J.1.1 98 (0, 16) rfl)) rfl (by decide) rfl rfl ⟨by decide, by decide⟩ (sf_X0_weigh_r98d (jr_of rfl (by omega)) (jr_of rfl (by omega)) (jr_of rfl (by omega)) hD J rfl  (fun v29 h ev29 J S26 X27 X28 => ?_))
                        have Sm := jSm_tr rfl Sm S26
                        try rw [X27] at D
                        try rw [X28] at D
                        show jX m_X11_counts 8 0 0 80 [(6, .int v18), (0, .ref 31), (1, .int a1), (2, .int a2), (3, .int a3), (4, .int a4), (5, .int a5)] [.int v29] _ 0 0 _
                        refine x_ifne (tgt := 87) rfl rfl (ti_ne rfl jk_0 ⟨fun c30 => ?_, fun c30 => ?_⟩)
                        ·
                          rw [if_neg (by omega)] at D
                          refine x_iload (x := a5) rfl rfl ?_
                          refine x_ifne (tgt := 100) rfl rfl (ti_ne rfl jk_0 ⟨fun c31 => ?_, fun c31 => ?_⟩)
                          ·
                            rw [if_neg (by omega)] at D
                            refine x_iload (x := a5) rfl rfl ?_
                            refine x_iconst (v := 1) rfl ki_1 ?_
                            refine x_icne (tgt := 117) rfl rfl (ti_ne rfl jk_1 ⟨fun c32 => ?_, fun c32 => ?_⟩)
                            ·
                              rw [if_neg (by omega)] at D
                              refine x_aloadn (x := 31) rfl rfl ?_
                              refine z_getR (N := 13) (b := 98) 11 7 rfl f_11_66 rfl J rfl 3975 ⟨rfl, rfl⟩ rfl ?_
                              refine z_getI0 (N := 16) 0 15 rfl f_11_369 rfl J rfl (fun v33 qv33 => ?_)
                              have ev33 := jfull v33
                              try rw [vrf qv33] at D
                              refine z_i2l rfl rfl (fun v34 ev34 => ?_)
                              try rw [show v33.toInt = v34.toInt from by omega] at D
                              exact jX.sub jsb_n (ct_X11_counts_r31d_125 hD hQ  v34 h (jr_ofl rfl (by omega)) J Sm D)
                            ·
                              rw [if_pos (by omega)] at D
                              refine x_aloadn (x := 31) rfl rfl ?_
                              refine z_getR (N := 13) (b := 98) 11 7 rfl f_11_66 rfl J rfl 3975 ⟨rfl, rfl⟩ rfl ?_
                              refine z_getI (N := 16) 0 13 rfl f_11_366 rfl J rfl sg_98_13_14_1_0_1 (fun v35 qv35 ev35 => ?_)
                              try rw [vrf qv35] at D
                              refine z_i2l rfl rfl (fun v36 ev36 => ?_)
                              refine x_goto (tgt := 125) rfl rfl ?_
                              try rw [show v35.toInt = v36.toInt from by omega] at D
                              exact jX.sub jsb_n (ct_X11_counts_r31d_125 hD hQ  v36 h (jr_ofl rfl (by omega)) J Sm D)
                          ·
                            rw [if_pos (by omega)] at D
                            refine x_aloadn (x := 31) rfl rfl ?_
                            refine z_getR (N := 13) (b := 98) 11 7 rfl f_11_66 rfl J rfl 3975 ⟨rfl, rfl⟩ rfl ?_
                            refine z_getLQ (N := 16) 0 14 rfl f_11_362 rfl J rfl (fun v37 qv37 => ?_)
                            have ev37 := jfullL v37
                            try rw [vrfL qv37] at D
                            refine x_lret rfl rfl ?_
                            exact hQ _ _ J Sm ((congrArg Prod.fst D).symm.trans (show v37.toInt = v37.toInt from by omega)) (congrArg Prod.snd D).symm
                        ·
                          rw [if_pos (by omega)] at D
                          refine x_ldc2 (v := (-2000000000000)) rfl z_11_351 ?_
                          refine x_lret rfl rfl ?_
                          exact hQ _ _ J Sm ((congrArg Prod.fst D).symm.trans (show (-2000000000000) = ((-2000000000000) : Int64).toInt from by have := jkl_m2000000000000; omega)) (congrArg Prod.snd D).symm
                      ·
                        rw [if_pos (by omega)] at D
                        refine x_ldc2 (v := (-2000000000000)) rfl z_11_351 ?_
                        refine x_lret rfl rfl ?_
                        exact hQ _ _ J Sm ((congrArg Prod.fst D).symm.trans (show (-2000000000000) = ((-2000000000000) : Int64).toInt from by have := jkl_m2000000000000; omega)) (congrArg Prod.snd D).symm
          ·
            rw [if_neg (by omega)] at D
            exact jX.sub jsb_n (ct_X11_counts_r31d_28 hD hQ  h J Sm D)
def fp_X11_end_r31d : jFp := [(68, 1, 2)]
set_option maxRecDepth 100000 in
set_option maxHeartbeats 4000000 in
theorem ct_X11_end_r31d_15 {Dy : jH → Prop} {h0 : jH} {Q : Option Value → jH → Prop} {dr : (Int × jW)} (hD : jDk Dy) (hQ : ∀ (v : Int32) hx9, (-1) ≤ v.toInt ∧ v.toInt ≤ 400 → jJ jSgX Dy hx9 → jSm fp_X11_end_r31d h0 hx9 → dr.1 = v.toInt → dr.2 = vw hx9 → Q (some (.int v)) hx9) : ∀ (h : jH), jJ jSgX Dy h → jSm fp_X11_end_r31d h0 h → d_X11_end_r31d_15  (vw h) = dr → jX m_X11_end 1 0 0 15 [] [] h 0 0 Q := by
  intro  h    J Sm D
  unfold d_X11_end_r31d_15 at D
  refine x_iconst (v := (-1)) rfl ki_m1 ?_
  refine x_iret rfl rfl ?_
  exact hQ _ _ (jr_of jk_m1 (by omega)) J Sm ((congrArg Prod.fst D).symm.trans (show (-1) = ((-1) : Int32).toInt from by have := jk_m1; omega)) (congrArg Prod.snd D).symm
set_option maxRecDepth 100000 in
set_option maxHeartbeats 4000000 in
theorem sf_X11_end_r31d {Dy : jH → Prop} {h : jH} {Q : Option Value → jH → Prop} {dr : (Int × jW)} {a1 : Int32} (hD : jDk Dy) (J : jJ jSgX Dy h) (D : d_X11_end_r31d a1.toInt (vw h) = dr) (hQ : ∀ (v : Int32) hx9, (-1) ≤ v.toInt ∧ v.toInt ≤ 400 → jJ jSgX Dy hx9 → jSm fp_X11_end_r31d h hx9 → dr.1 = v.toInt → dr.2 = vw hx9 → Q (some (.int v)) hx9) : jC m_X11_end 1 0 0 [.ref 31, .int a1] h Q := by
  refine jC.of rfl k_X11_end rfl ?_
  have Sm := jSm_rf fp_X11_end_r31d h
  have ea1 := jfull a1
  show jX m_X11_end 1 0 0 0 [(0, .ref 31), (1, .int a1)] [] _ 0 0 _
  unfold d_X11_end_r31d at D
  refine x_iloadn (x := a1) rfl rfl ?_
  refine x_iflt (tgt := 15) rfl rfl (ti_lt rfl jk_0 ⟨fun c1 => ?_, fun c1 => ?_⟩)
  ·
    rw [if_pos (by omega)] at D
    exact jX.sub jsb_n (ct_X11_end_r31d_15 hD hQ  h J Sm D)
  ·
    rw [if_neg (by omega)] at D
    refine x_iloadn (x := a1) rfl rfl ?_
    refine x_aloadn (x := 31) rfl rfl ?_
    refine z_getR (N := 13) (b := 68) 11 2 rfl f_11_23 rfl J rfl 3970 ⟨rfl, rfl⟩ rfl ?_
    refine z_getI (N := 6) 9 1 rfl f_11_106 rfl J rfl sg_68_1_2_1_0_1 (fun v2 qv2 ev2 => ?_)
    try rw [vrf qv2] at D
    refine x_icle (tgt := 17) rfl rfl (ti_le rfl rfl ⟨fun c3 => ?_, fun c3 => ?_⟩)
    ·
      rw [if_pos (by omega)] at D
      refine x_aloadn (x := 31) rfl rfl ?_
      refine z_getR (N := 13) (b := 68) 11 2 rfl f_11_23 rfl J rfl 3970 ⟨rfl, rfl⟩ rfl ?_
      refine x_iloadn (x := a1) rfl rfl ?_
      refine z_putI (N := 6) (w := a1.toInt) 9 1 rfl f_11_106 rfl (jfin_no TX9 RX9 6 rfl rfl) hD J Sm rfl rfl rfl (pw_68_1 (by omega)) rfl (fun h w4 J Sm => ?_)
      rw [vwf w4 (show a1.toInt = a1.toInt from by omega)] at D
      refine x_iloadn (x := a1) rfl rfl ?_
      refine x_iret rfl rfl ?_
      exact hQ _ _ (jr_of rfl (by omega)) J Sm ((congrArg Prod.fst D).symm.trans (show a1.toInt = a1.toInt from by omega)) (congrArg Prod.snd D).symm
    ·
      rw [if_neg (by omega)] at D
      exact jX.sub jsb_n (ct_X11_end_r31d_15 hD hQ  h J Sm D)
def fp_X8_put_r57_c0d : jFp := [(58, 0, 400)]
set_option maxRecDepth 100000 in
set_option maxHeartbeats 4000000 in
theorem ct_X8_put_r57_c0d_38 {Dy : jH → Prop} {h0 : jH} {Q : Option Value → jH → Prop} {dr : jW} (hD : jDk Dy) (hQ : ∀ hx9, jJ jSgX Dy hx9 → jSm fp_X8_put_r57_c0d h0 hx9 → dr = vw hx9 → Q none hx9) : ∀ (h : jH), jJ jSgX Dy h → jSm fp_X8_put_r57_c0d h0 h → d_X8_put_r57_c0d_38  (vw h) = dr → jX m_X8_put 1 0 0 38 [] [] h 0 0 Q := by
  intro  h    J Sm D
  unfold d_X8_put_r57_c0d_38 at D
  refine x_vret rfl rfl ?_
  exact hQ _ J Sm D.symm
set_option maxRecDepth 100000 in
set_option maxHeartbeats 4000000 in
theorem sf_X8_put_r57_c0d {Dy : jH → Prop} {h : jH} {Q : Option Value → jH → Prop} {dr : jW} {a1 : Int32} {a3 : Int32} (y1 : 0 ≤ a1.toInt ∧ a1.toInt ≤ 99) (y3 : 0 ≤ a3.toInt ∧ a3.toInt ≤ 146399) (hD : jDk Dy) (J : jJ jSgX Dy h) (D : d_X8_put_r57_c0d a1.toInt a3.toInt (vw h) = dr) (hQ : ∀ hx9, jJ jSgX Dy hx9 → jSm fp_X8_put_r57_c0d h hx9 → dr = vw hx9 → Q none hx9) : jC m_X8_put 1 0 0 [.ref 57, .int a1, .int 0, .int a3] h Q := by
  refine jC.of rfl k_X8_put rfl ?_
  have Sm := jSm_rf fp_X8_put_r57_c0d h
  show jX m_X8_put 1 0 0 0 [(0, .ref 57), (1, .int a1), (2, .int 0), (3, .int a3)] [] _ 0 0 _
  unfold d_X8_put_r57_c0d at D
  refine x_iloadn (x := a1) rfl rfl ?_
  refine x_iflt (tgt := 38) rfl rfl (ti_lt rfl jk_0 (br_f (by omega) ?_))
  refine x_iloadn (x := a1) rfl rfl ?_
  refine x_aloadn (x := 57) rfl rfl ?_
  refine z_getI (N := 4) 8 3 rfl f_8_7 rfl J rfl sg_57_3_4_1_0_1 (fun v1 qv1 ev1 => ?_)
  try rw [vrf qv1] at D
  refine x_icge (tgt := 38) rfl rfl (ti_ge rfl rfl ⟨fun c2 => ?_, fun c2 => ?_⟩)
  ·
    rw [if_pos (by omega)] at D
    exact jX.sub jsb_n (ct_X8_put_r57_c0d_38 hD hQ  h J Sm D)
  ·
    rw [if_neg (by omega)] at D
    refine x_iloadn (x := 0) rfl rfl ?_
    refine x_iflt (tgt := 38) rfl rfl (ti_lt jk_0 jk_0 (br_f (by omega) ?_))
    refine x_iloadn (x := 0) rfl rfl ?_
    refine x_aloadn (x := 57) rfl rfl ?_
    refine z_getC (N := 4) (v := 4) 8 0 rfl f_8_19 rfl J rfl sg_57_0_1_1_0_1 jk_4 ?_
    refine x_icge (tgt := 38) rfl rfl (ti_ge jk_0 jk_4 (br_f (by omega) ?_))
    refine x_aloadn (x := 57) rfl rfl ?_
    refine z_getR (N := 4) (b := 58) 8 2 rfl f_8_25 rfl J rfl 7298 ⟨rfl, rfl⟩ rfl ?_
    refine x_iloadn (x := a1) rfl rfl ?_
    refine x_aloadn (x := 57) rfl rfl ?_
    refine z_getC (N := 4) (v := 4) 8 0 rfl f_8_19 rfl J rfl sg_57_0_1_1_0_1 jk_4 ?_
    refine z_imul rfl rfl jk_4 (by omega) (fun v3 ev3 => ?_)
    refine x_iloadn (x := 0) rfl rfl ?_
    refine z_iadd rfl rfl jk_0 (by omega) (fun v4 ev4 => ?_)
    refine x_iloadn (x := a3) rfl rfl ?_
    refine z_iast (N := 400) (l := 0) (u := 400) (w := a3.toInt) rfl hD J Sm rfl rfl rfl (by omega) rfl (wr_58 (fun q1 q2 q3 q4 => by omega) (fun q1 q2 q3 q4 => by omega) (fun q1 q2 q3 q4 => by omega) (fun q1 q2 q3 q4 => by omega)) rfl (fun h w5 J Sm => ?_)
    rw [vww w5 (show ((a1.toInt * 4) + 0) = v4.toInt from by omega) (show a3.toInt = a3.toInt from by omega)] at D
    exact jX.sub jsb_n (ct_X8_put_r57_c0d_38 hD hQ  h J Sm D)
def fp_X8_put_r57_c1d : jFp := [(58, 0, 400)]
set_option maxRecDepth 100000 in
set_option maxHeartbeats 4000000 in
theorem ct_X8_put_r57_c1d_38 {Dy : jH → Prop} {h0 : jH} {Q : Option Value → jH → Prop} {dr : jW} (hD : jDk Dy) (hQ : ∀ hx9, jJ jSgX Dy hx9 → jSm fp_X8_put_r57_c1d h0 hx9 → dr = vw hx9 → Q none hx9) : ∀ (h : jH), jJ jSgX Dy h → jSm fp_X8_put_r57_c1d h0 h → d_X8_put_r57_c1d_38  (vw h) = dr → jX m_X8_put 1 0 0 38 [] [] h 0 0 Q := by
  intro  h    J Sm D
  unfold d_X8_put_r57_c1d_38 at D
  refine x_vret rfl rfl ?_
  exact hQ _ J Sm D.symm
set_option maxRecDepth 100000 in
set_option maxHeartbeats 4000000 in
theorem sf_X8_put_r57_c1d {Dy : jH → Prop} {h : jH} {Q : Option Value → jH → Prop} {dr : jW} {a1 : Int32} {a3 : Int32} (y1 : 0 ≤ a1.toInt ∧ a1.toInt ≤ 99) (y3 : 0 ≤ a3.toInt ∧ a3.toInt ≤ 399) (hD : jDk Dy) (J : jJ jSgX Dy h) (D : d_X8_put_r57_c1d a1.toInt a3.toInt (vw h) = dr) (hQ : ∀ hx9, jJ jSgX Dy hx9 → jSm fp_X8_put_r57_c1d h hx9 → dr = vw hx9 → Q none hx9) : jC m_X8_put 1 0 0 [.ref 57, .int a1, .int 1, .int a3] h Q := by
  refine jC.of rfl k_X8_put rfl ?_
  have Sm := jSm_rf fp_X8_put_r57_c1d h
  show jX m_X8_put 1 0 0 0 [(0, .ref 57), (1, .int a1), (2, .int 1), (3, .int a3)] [] _ 0 0 _
  unfold d_X8_put_r57_c1d at D
  refine x_iloadn (x := a1) rfl rfl ?_
  refine x_iflt (tgt := 38) rfl rfl (ti_lt rfl jk_0 (br_f (by omega) ?_))
  refine x_iloadn (x := a1) rfl rfl ?_
  refine x_aloadn (x := 57) rfl rfl ?_
  refine z_getI (N := 4) 8 3 rfl f_8_7 rfl J rfl sg_57_3_4_1_0_1 (fun v1 qv1 ev1 => ?_)
  try rw [vrf qv1] at D
  refine x_icge (tgt := 38) rfl rfl (ti_ge rfl rfl ⟨fun c2 => ?_, fun c2 => ?_⟩)
  ·
    rw [if_pos (by omega)] at D
    exact jX.sub jsb_n (ct_X8_put_r57_c1d_38 hD hQ  h J Sm D)
  ·
    rw [if_neg (by omega)] at D
    refine x_iloadn (x := 1) rfl rfl ?_
    refine x_iflt (tgt := 38) rfl rfl (ti_lt jk_1 jk_0 (br_f (by omega) ?_))
    refine x_iloadn (x := 1) rfl rfl ?_
    refine x_aloadn (x := 57) rfl rfl ?_
    refine z_getC (N := 4) (v := 4) 8 0 rfl f_8_19 rfl J rfl sg_57_0_1_1_0_1 jk_4 ?_
    refine x_icge (tgt := 38) rfl rfl (ti_ge jk_1 jk_4 (br_f (by omega) ?_))
    refine x_aloadn (x := 57) rfl rfl ?_
    refine z_getR (N := 4) (b := 58) 8 2 rfl f_8_25 rfl J rfl 7298 ⟨rfl, rfl⟩ rfl ?_
    refine x_iloadn (x := a1) rfl rfl ?_
    refine x_aloadn (x := 57) rfl rfl ?_
    refine z_getC (N := 4) (v := 4) 8 0 rfl f_8_19 rfl J rfl sg_57_0_1_1_0_1 jk_4 ?_
    refine z_imul rfl rfl jk_4 (by omega) (fun v3 ev3 => ?_)
    refine x_iloadn (x := 1) rfl rfl ?_
    refine z_iadd rfl rfl jk_1 (by omega) (fun v4 ev4 => ?_)
    refine x_iloadn (x := a3) rfl rfl ?_
    refine z_iast (N := 400) (l := 0) (u := 400) (w := a3.toInt) rfl hD J Sm rfl rfl rfl (by omega) rfl (wr_58 (fun q1 q2 q3 q4 => by omega) (fun q1 q2 q3 q4 => by omega) (fun q1 q2 q3 q4 => by omega) (fun q1 q2 q3 q4 => by omega)) rfl (fun h w5 J Sm => ?_)
    rw [vww w5 (show ((a1.toInt * 4) + 1) = v4.toInt from by omega) (show a3.toInt = a3.toInt from by omega)] at D
    exact jX.sub jsb_n (ct_X8_put_r57_c1d_38 hD hQ  h J Sm D)
def fp_X8_put_r57_c2d : jFp := [(58, 0, 400)]
set_option maxRecDepth 100000 in
set_option maxHeartbeats 4000000 in
theorem ct_X8_put_r57_c2d_38 {Dy : jH → Prop} {h0 : jH} {Q : Option Value → jH → Prop} {dr : jW} (hD : jDk Dy) (hQ : ∀ hx9, jJ jSgX Dy hx9 → jSm fp_X8_put_r57_c2d h0 hx9 → dr = vw hx9 → Q none hx9) : ∀ (h : jH), jJ jSgX Dy h → jSm fp_X8_put_r57_c2d h0 h → d_X8_put_r57_c2d_38  (vw h) = dr → jX m_X8_put 1 0 0 38 [] [] h 0 0 Q := by
  intro  h    J Sm D
  unfold d_X8_put_r57_c2d_38 at D
  refine x_vret rfl rfl ?_
  exact hQ _ J Sm D.symm
set_option maxRecDepth 100000 in
set_option maxHeartbeats 4000000 in
theorem sf_X8_put_r57_c2d {Dy : jH → Prop} {h : jH} {Q : Option Value → jH → Prop} {dr : jW} {a1 : Int32} {a3 : Int32} (y1 : 0 ≤ a1.toInt ∧ a1.toInt ≤ 99) (y3 : 0 ≤ a3.toInt ∧ a3.toInt ≤ 3) (hD : jDk Dy) (J : jJ jSgX Dy h) (D : d_X8_put_r57_c2d a1.toInt a3.toInt (vw h) = dr) (hQ : ∀ hx9, jJ jSgX Dy hx9 → jSm fp_X8_put_r57_c2d h hx9 → dr = vw hx9 → Q none hx9) : jC m_X8_put 1 0 0 [.ref 57, .int a1, .int 2, .int a3] h Q := by
  refine jC.of rfl k_X8_put rfl ?_
  have Sm := jSm_rf fp_X8_put_r57_c2d h
  show jX m_X8_put 1 0 0 0 [(0, .ref 57), (1, .int a1), (2, .int 2), (3, .int a3)] [] _ 0 0 _
  unfold d_X8_put_r57_c2d at D
  refine x_iloadn (x := a1) rfl rfl ?_
  refine x_iflt (tgt := 38) rfl rfl (ti_lt rfl jk_0 (br_f (by omega) ?_))
  refine x_iloadn (x := a1) rfl rfl ?_
  refine x_aloadn (x := 57) rfl rfl ?_
  refine z_getI (N := 4) 8 3 rfl f_8_7 rfl J rfl sg_57_3_4_1_0_1 (fun v1 qv1 ev1 => ?_)
  try rw [vrf qv1] at D
  refine x_icge (tgt := 38) rfl rfl (ti_ge rfl rfl ⟨fun c2 => ?_, fun c2 => ?_⟩)
  ·
    rw [if_pos (by omega)] at D
    exact jX.sub jsb_n (ct_X8_put_r57_c2d_38 hD hQ  h J Sm D)
  ·
    rw [if_neg (by omega)] at D
    refine x_iloadn (x := 2) rfl rfl ?_
    refine x_iflt (tgt := 38) rfl rfl (ti_lt jk_2 jk_0 (br_f (by omega) ?_))
    refine x_iloadn (x := 2) rfl rfl ?_
    refine x_aloadn (x := 57) rfl rfl ?_
    refine z_getC (N := 4) (v := 4) 8 0 rfl f_8_19 rfl J rfl sg_57_0_1_1_0_1 jk_4 ?_
    refine x_icge (tgt := 38) rfl rfl (ti_ge jk_2 jk_4 (br_f (by omega) ?_))
    refine x_aloadn (x := 57) rfl rfl ?_
    refine z_getR (N := 4) (b := 58) 8 2 rfl f_8_25 rfl J rfl 7298 ⟨rfl, rfl⟩ rfl ?_
    refine x_iloadn (x := a1) rfl rfl ?_
    refine x_aloadn (x := 57) rfl rfl ?_
    refine z_getC (N := 4) (v := 4) 8 0 rfl f_8_19 rfl J rfl sg_57_0_1_1_0_1 jk_4 ?_
    refine z_imul rfl rfl jk_4 (by omega) (fun v3 ev3 => ?_)
    refine x_iloadn (x := 2) rfl rfl ?_
    refine z_iadd rfl rfl jk_2 (by omega) (fun v4 ev4 => ?_)
    refine x_iloadn (x := a3) rfl rfl ?_
    refine z_iast (N := 400) (l := 0) (u := 400) (w := a3.toInt) rfl hD J Sm rfl rfl rfl (by omega) rfl (wr_58 (fun q1 q2 q3 q4 => by omega) (fun q1 q2 q3 q4 => by omega) (fun q1 q2 q3 q4 => by omega) (fun q1 q2 q3 q4 => by omega)) rfl (fun h w5 J Sm => ?_)
    rw [vww w5 (show ((a1.toInt * 4) + 2) = v4.toInt from by omega) (show a3.toInt = a3.toInt from by omega)] at D
    exact jX.sub jsb_n (ct_X8_put_r57_c2d_38 hD hQ  h J Sm D)
def fp_X8_put_r57_c3d : jFp := [(58, 0, 400)]
set_option maxRecDepth 100000 in
set_option maxHeartbeats 4000000 in
theorem ct_X8_put_r57_c3d_38 {Dy : jH → Prop} {h0 : jH} {Q : Option Value → jH → Prop} {dr : jW} (hD : jDk Dy) (hQ : ∀ hx9, jJ jSgX Dy hx9 → jSm fp_X8_put_r57_c3d h0 hx9 → dr = vw hx9 → Q none hx9) : ∀ (h : jH), jJ jSgX Dy h → jSm fp_X8_put_r57_c3d h0 h → d_X8_put_r57_c3d_38  (vw h) = dr → jX m_X8_put 1 0 0 38 [] [] h 0 0 Q := by
  intro  h    J Sm D
  unfold d_X8_put_r57_c3d_38 at D
  refine x_vret rfl rfl ?_
  exact hQ _ J Sm D.symm
set_option maxRecDepth 100000 in
set_option maxHeartbeats 4000000 in
theorem sf_X8_put_r57_c3d {Dy : jH → Prop} {h : jH} {Q : Option Value → jH → Prop} {dr : jW} {a1 : Int32} {a3 : Int32} (y1 : 0 ≤ a1.toInt ∧ a1.toInt ≤ 99) (y3 : (-1000000) ≤ a3.toInt ∧ a3.toInt ≤ 1000000) (hD : jDk Dy) (J : jJ jSgX Dy h) (D : d_X8_put_r57_c3d a1.toInt a3.toInt (vw h) = dr) (hQ : ∀ hx9, jJ jSgX Dy hx9 → jSm fp_X8_put_r57_c3d h hx9 → dr = vw hx9 → Q none hx9) : jC m_X8_put 1 0 0 [.ref 57, .int a1, .int 3, .int a3] h Q := by
  refine jC.of rfl k_X8_put rfl ?_
  have Sm := jSm_rf fp_X8_put_r57_c3d h
  show jX m_X8_put 1 0 0 0 [(0, .ref 57), (1, .int a1), (2, .int 3), (3, .int a3)] [] _ 0 0 _
  unfold d_X8_put_r57_c3d at D
  refine x_iloadn (x := a1) rfl rfl ?_
  refine x_iflt (tgt := 38) rfl rfl (ti_lt rfl jk_0 (br_f (by omega) ?_))
  refine x_iloadn (x := a1) rfl rfl ?_
  refine x_aloadn (x := 57) rfl rfl ?_
  refine z_getI (N := 4) 8 3 rfl f_8_7 rfl J rfl sg_57_3_4_1_0_1 (fun v1 qv1 ev1 => ?_)
  try rw [vrf qv1] at D
  refine x_icge (tgt := 38) rfl rfl (ti_ge rfl rfl ⟨fun c2 => ?_, fun c2 => ?_⟩)
  ·
    rw [if_pos (by omega)] at D
    exact jX.sub jsb_n (ct_X8_put_r57_c3d_38 hD hQ  h J Sm D)
  ·
    rw [if_neg (by omega)] at D
    refine x_iloadn (x := 3) rfl rfl ?_
    refine x_iflt (tgt := 38) rfl rfl (ti_lt jk_3 jk_0 (br_f (by omega) ?_))
    refine x_iloadn (x := 3) rfl rfl ?_
    refine x_aloadn (x := 57) rfl rfl ?_
    refine z_getC (N := 4) (v := 4) 8 0 rfl f_8_19 rfl J rfl sg_57_0_1_1_0_1 jk_4 ?_
    refine x_icge (tgt := 38) rfl rfl (ti_ge jk_3 jk_4 (br_f (by omega) ?_))
    refine x_aloadn (x := 57) rfl rfl ?_
    refine z_getR (N := 4) (b := 58) 8 2 rfl f_8_25 rfl J rfl 7298 ⟨rfl, rfl⟩ rfl ?_
    refine x_iloadn (x := a1) rfl rfl ?_
    refine x_aloadn (x := 57) rfl rfl ?_
    refine z_getC (N := 4) (v := 4) 8 0 rfl f_8_19 rfl J rfl sg_57_0_1_1_0_1 jk_4 ?_
    refine z_imul rfl rfl jk_4 (by omega) (fun v3 ev3 => ?_)
    refine x_iloadn (x := 3) rfl rfl ?_
    refine z_iadd rfl rfl jk_3 (by omega) (fun v4 ev4 => ?_)
    refine x_iloadn (x := a3) rfl rfl ?_
    refine z_iast (N := 400) (l := 0) (u := 400) (w := a3.toInt) rfl hD J Sm rfl rfl rfl (by omega) rfl (wr_58 (fun q1 q2 q3 q4 => by omega) (fun q1 q2 q3 q4 => by omega) (fun q1 q2 q3 q4 => by omega) (fun q1 q2 q3 q4 => by omega)) rfl (fun h w5 J Sm => ?_)
    rw [vww w5 (show ((a1.toInt * 4) + 3) = v4.toInt from by omega) (show a3.toInt = a3.toInt from by omega)] at D
    exact jX.sub jsb_n (ct_X8_put_r57_c3d_38 hD hQ  h J Sm D)
def fp_X8_put_r57_c4d : jFp := []
set_option maxRecDepth 100000 in
set_option maxHeartbeats 4000000 in
theorem ct_X8_put_r57_c4d_38 {Dy : jH → Prop} {h0 : jH} {Q : Option Value → jH → Prop} {dr : jW} (hD : jDk Dy) (hQ : ∀ hx9, jJ jSgX Dy hx9 → jSm fp_X8_put_r57_c4d h0 hx9 → dr = vw hx9 → Q none hx9) : ∀ (h : jH), jJ jSgX Dy h → jSm fp_X8_put_r57_c4d h0 h → d_X8_put_r57_c4d_38  (vw h) = dr → jX m_X8_put 1 0 0 38 [] [] h 0 0 Q := by
  intro  h    J Sm D
  unfold d_X8_put_r57_c4d_38 at D
  refine x_vret rfl rfl ?_
  exact hQ _ J Sm D.symm
set_option maxRecDepth 100000 in
set_option maxHeartbeats 4000000 in
theorem sf_X8_put_r57_c4d {Dy : jH → Prop} {h : jH} {Q : Option Value → jH → Prop} {dr : jW} {a1 : Int32} {a3 : Int32} (y1 : 0 ≤ a1.toInt ∧ a1.toInt ≤ 99) (y3 : 0 ≤ a3.toInt ∧ a3.toInt ≤ 0) (hD : jDk Dy) (J : jJ jSgX Dy h) (D : d_X8_put_r57_c4d a1.toInt a3.toInt (vw h) = dr) (hQ : ∀ hx9, jJ jSgX Dy hx9 → jSm fp_X8_put_r57_c4d h hx9 → dr = vw hx9 → Q none hx9) : jC m_X8_put 1 0 0 [.ref 57, .int a1, .int 4, .int a3] h Q := by
  refine jC.of rfl k_X8_put rfl ?_
  have Sm := jSm_rf fp_X8_put_r57_c4d h
  show jX m_X8_put 1 0 0 0 [(0, .ref 57), (1, .int a1), (2, .int 4), (3, .int a3)] [] _ 0 0 _
  unfold d_X8_put_r57_c4d at D
  refine x_iloadn (x := a1) rfl rfl ?_
  refine x_iflt (tgt := 38) rfl rfl (ti_lt rfl jk_0 (br_f (by omega) ?_))
  refine x_iloadn (x := a1) rfl rfl ?_
  refine x_aloadn (x := 57) rfl rfl ?_
  refine z_getI (N := 4) 8 3 rfl f_8_7 rfl J rfl sg_57_3_4_1_0_1 (fun v1 qv1 ev1 => ?_)
  try rw [vrf qv1] at D
  refine x_icge (tgt := 38) rfl rfl (ti_ge rfl rfl ⟨fun c2 => ?_, fun c2 => ?_⟩)
  ·
    rw [if_pos (by omega)] at D
    exact jX.sub jsb_n (ct_X8_put_r57_c4d_38 hD hQ  h J Sm D)
  ·
    rw [if_neg (by omega)] at D
    refine x_iloadn (x := 4) rfl rfl ?_
    refine x_iflt (tgt := 38) rfl rfl (ti_lt jk_4 jk_0 (br_f (by omega) ?_))
    refine x_iloadn (x := 4) rfl rfl ?_
    refine x_aloadn (x := 57) rfl rfl ?_
    refine z_getC (N := 4) (v := 4) 8 0 rfl f_8_19 rfl J rfl sg_57_0_1_1_0_1 jk_4 ?_
    refine x_icge (tgt := 38) rfl rfl (ti_ge jk_4 jk_4 (br_t (by omega) ?_))
    exact jX.sub jsb_n (ct_X8_put_r57_c4d_38 hD hQ  h J Sm D)
def fp_X8_put_r57_c5d : jFp := []
set_option maxRecDepth 100000 in
set_option maxHeartbeats 4000000 in
theorem ct_X8_put_r57_c5d_38 {Dy : jH → Prop} {h0 : jH} {Q : Option Value → jH → Prop} {dr : jW} (hD : jDk Dy) (hQ : ∀ hx9, jJ jSgX Dy hx9 → jSm fp_X8_put_r57_c5d h0 hx9 → dr = vw hx9 → Q none hx9) : ∀ (h : jH), jJ jSgX Dy h → jSm fp_X8_put_r57_c5d h0 h → d_X8_put_r57_c5d_38  (vw h) = dr → jX m_X8_put 1 0 0 38 [] [] h 0 0 Q := by
  intro  h    J Sm D
  unfold d_X8_put_r57_c5d_38 at D
  refine x_vret rfl rfl ?_
  exact hQ _ J Sm D.symm
set_option maxRecDepth 100000 in
set_option maxHeartbeats 4000000 in
theorem sf_X8_put_r57_c5d {Dy : jH → Prop} {h : jH} {Q : Option Value → jH → Prop} {dr : jW} {a1 : Int32} {a3 : Int32} (y1 : 0 ≤ a1.toInt ∧ a1.toInt ≤ 99) (y3 : 0 ≤ a3.toInt ∧ a3.toInt ≤ 0) (hD : jDk Dy) (J : jJ jSgX Dy h) (D : d_X8_put_r57_c5d a1.toInt a3.toInt (vw h) = dr) (hQ : ∀ hx9, jJ jSgX Dy hx9 → jSm fp_X8_put_r57_c5d h hx9 → dr = vw hx9 → Q none hx9) : jC m_X8_put 1 0 0 [.ref 57, .int a1, .int 5, .int a3] h Q := by
  refine jC.of rfl k_X8_put rfl ?_
  have Sm := jSm_rf fp_X8_put_r57_c5d h
  show jX m_X8_put 1 0 0 0 [(0, .ref 57), (1, .int a1), (2, .int 5), (3, .int a3)] [] _ 0 0 _
  unfold d_X8_put_r57_c5d at D
  refine x_iloadn (x := a1) rfl rfl ?_
  refine x_iflt (tgt := 38) rfl rfl (ti_lt rfl jk_0 (br_f (by omega) ?_))
  refine x_iloadn (x := a1) rfl rfl ?_
  refine x_aloadn (x := 57) rfl rfl ?_
  refine z_getI (N := 4) 8 3 rfl f_8_7 rfl J rfl sg_57_3_4_1_0_1 (fun v1 qv1 ev1 => ?_)
  try rw [vrf qv1] at D
  refine x_icge (tgt := 38) rfl rfl (ti_ge rfl rfl ⟨fun c2 => ?_, fun c2 => ?_⟩)
  ·
    rw [if_pos (by omega)] at D
    exact jX.sub jsb_n (ct_X8_put_r57_c5d_38 hD hQ  h J Sm D)
  ·
    rw [if_neg (by omega)] at D
    refine x_iloadn (x := 5) rfl rfl ?_
    refine x_iflt (tgt := 38) rfl rfl (ti_lt jk_5 jk_0 (br_f (by omega) ?_))
    refine x_iloadn (x := 5) rfl rfl ?_
    refine x_aloadn (x := 57) rfl rfl ?_
    refine z_getC (N := 4) (v := 4) 8 0 rfl f_8_19 rfl J rfl sg_57_0_1_1_0_1 jk_4 ?_
    refine x_icge (tgt := 38) rfl rfl (ti_ge jk_5 jk_4 (br_t (by omega) ?_))
    exact jX.sub jsb_n (ct_X8_put_r57_c5d_38 hD hQ  h J Sm D)
