def fp_X0_readLaws_r98d : jFp := [(98, 10, 11), (98, 11, 12), (99, 0, 30), (100, 0, 30), (101, 0, 3)]
set_option maxRecDepth 100000 in
set_option maxHeartbeats 4000000 in
theorem ct_X0_readLaws_r98d_161 {Dy : jH → Prop} {h0 : jH} {Q : Option Value → jH → Prop} {dr : jW} {K85 : Int → jW → jW} {R85 : Int} (hD : jDk Dy) (hQ : ∀ hx9, jJ jSgX Dy hx9 → jSm fp_X0_readLaws_r98d h0 hx9 → dr = vw hx9 → Q none hx9) (k85 : ∀ (l4 : Int32) (g0 : Int32) (g1 : Int32) (g2 : Int32) (h : jH), l4.toInt - (-1) < R85 → (-1) ≤ l4.toInt ∧ l4.toInt ≤ 29 → 0 ≤ g0.toInt ∧ g0.toInt ≤ 30 → 0 ≤ g1.toInt ∧ g1.toInt ≤ 146399 → 0 ≤ g2.toInt ∧ g2.toInt ≤ 146399 → jiv h 32 18 = g0 → jiv h 98 10 = g1 → jiv h 98 11 = g2 → jJ jSgX Dy h → jSm fp_X0_readLaws_r98d h0 h → K85 l4.toInt (vw h) = dr → jX m_X0_readLaws 3 0 0 85 [(0, .ref 98), (4, .int l4)] [] h 0 0 Q) : ∀ (l4 : Int32) (g0 : Int32) (g1 : Int32) (g2 : Int32) (h : jH), 0 ≤ l4.toInt ∧ l4.toInt ≤ 29 → 0 ≤ g0.toInt ∧ g0.toInt ≤ 30 → 0 ≤ g1.toInt ∧ g1.toInt ≤ 146399 → 0 ≤ g2.toInt ∧ g2.toInt ≤ 146399 → jiv h 32 18 = g0 → jiv h 98 10 = g1 → jiv h 98 11 = g2 → l4.toInt - (-1) ≤ R85 → jJ jSgX Dy h → jSm fp_X0_readLaws_r98d h0 h → d_X0_readLaws_r98d_161 K85  l4.toInt (vw h) = dr → jX m_X0_readLaws 3 0 0 161 [(0, .ref 98), (4, .int l4)] [] h 0 0 Q := by
  intro l4 g0 g1 g2 h y0 y1 y2 y3 z0 z1 z2 m85 J Sm D
  unfold d_X0_readLaws_r98d_161 at D
  try rw [vrf z0] at D
  try rw [vrf z1] at D
  try rw [vrf z2] at D
  refine z_iinc (x := l4) (lsx9 := fun v1 => [(4, .int v1), (0, .ref 98)]) rfl rfl rfl jko_m1 (by omega) rfl (fun _ => rfl) (fun v1 ev1 => ?_)
  refine x_goto (tgt := 85) rfl rfl ?_
  try rw [show (l4.toInt + (-1)) = v1.toInt from by omega] at D
  exact jX.sub (jsb_c rfl (jsb_c rfl jsb_n)) (k85 v1 g0 g1 g2 h (by omega) (jr_of rfl (by omega)) (jr_of rfl (by omega)) (jr_of rfl (by omega)) (jr_of rfl (by omega)) z0 z1 z2 J Sm D)
set_option maxRecDepth 100000 in
set_option maxHeartbeats 4000000 in
theorem ct_X0_readLaws_r98d_85 {Dy : jH → Prop} {h0 : jH} {Q : Option Value → jH → Prop} {dr : jW} (hD : jDk Dy) (hQ : ∀ hx9, jJ jSgX Dy hx9 → jSm fp_X0_readLaws_r98d h0 hx9 → dr = vw hx9 → Q none hx9) : ∀ r : Nat, ∀ (l4 : Int32) (g0 : Int32) (g1 : Int32) (g2 : Int32) (h : jH), l4.toInt - (-1) < (r : Int) → (-1) ≤ l4.toInt ∧ l4.toInt ≤ 29 → 0 ≤ g0.toInt ∧ g0.toInt ≤ 30 → 0 ≤ g1.toInt ∧ g1.toInt ≤ 146399 → 0 ≤ g2.toInt ∧ g2.toInt ≤ 146399 → jiv h 32 18 = g0 → jiv h 98 10 = g1 → jiv h 98 11 = g2 → jJ jSgX Dy h → jSm fp_X0_readLaws_r98d h0 h → d_X0_readLaws_r98d_85 r l4.toInt (vw h) = dr → jX m_X0_readLaws 3 0 0 85 [(0, .ref 98), (4, .int l4)] [] h 0 0 Q := by
  intro r
  induction r with
  | zero =>
    intro l4 g0 g1 g2 h hm y0 y1 y2 y3 z0 z1 z2  J Sm D
    exfalso
    omega
  | succ r ih =>
    intro l4 g0 g1 g2 h hm y0 y1 y2 y3 z0 z1 z2  J Sm D
    rw [d_X0_readLaws_r98d_85.eq_2] at D
    try rw [vrf z0] at D
    try rw [vrf z1] at D
    try rw [vrf z2] at D
    refine x_iload (x := l4) rfl rfl ?_
    refine x_iflt (tgt := 167) rfl rfl (ti_lt rfl jk_0 ⟨fun c1 => ?_, fun c1 => ?_⟩)
    ·
      rw [if_pos (by omega)] at D
      refine x_vret rfl rfl ?_
      exact hQ _ J Sm D.symm
    ·
      rw [if_neg (by omega)] at D
      refine x_aloadn (x := 98) rfl rfl ?_
      refine x_iload (x := l4) rfl rfl ?_
      refine x_inv (N := m_X0_textAt) (As := [.int l4]) (b := 98) (st := []) (dx9 := 2) (mc := 0) (ms := 0) (host := "") 0 rfl t_X0_textAt ⟨Or.inl q_0_94, i_X0_textAt.1, i_X0_textAt.2⟩ ⟨by decide, rfl⟩ (congrArg Prod.fst (J.1.1 98 (0, 16) rfl)) rfl (by decide) rfl rfl ⟨by decide, by decide⟩ (jC.of rfl k_X0_textAt rfl ?_)
      show jX m_X0_textAt 2 0 0 0 [(0, .ref 98), (1, .int l4)] [] _ 0 0 _
      refine x_iloadn (x := l4) rfl rfl ?_
      refine x_iflt (tgt := 33) rfl rfl (ti_lt rfl jk_0 (br_f (by omega) ?_))
      refine x_iloadn (x := l4) rfl rfl ?_
      refine x_aloadn (x := 98) rfl rfl ?_
      refine z_getR (N := 16) (b := 32) 0 0 rfl f_0_57 rfl J rfl 12544 ⟨rfl, rfl⟩ rfl ?_
      refine z_getM (N := 20) (v := g0) 1 18 rfl f_0_72 rfl J rfl z0 ?_
      refine x_icge (tgt := 33) rfl rfl (ti_ge rfl rfl ⟨fun c2 => ?_, fun c2 => ?_⟩)
      ·
        rw [if_pos (by omega)] at D
        refine x_null rfl ?_
        refine x_aret rfl rfl rfl (Or.inl rfl) ?_
        show jX m_X0_readLaws 3 0 0 96 [(0, .ref 98), (4, .int l4)] [.null] _ 0 0 _
        refine x_astoreN (lsx9 := [(5, .null), (0, .ref 98), (4, .int l4)]) rfl rfl rfl ?_
        refine x_aloadN rfl rfl ?_
        refine x_ifnullN (tgt := 161) rfl rfl ?_
        exact jX.sub (jsb_c rfl (jsb_c rfl jsb_n)) (ct_X0_readLaws_r98d_161 hD hQ ih l4 g0 g1 g2 h (jr_of rfl (by omega)) (jr_of rfl (by omega)) (jr_of rfl (by omega)) (jr_of rfl (by omega)) z0 z1 z2 (by omega) J Sm D)
      ·
        rw [if_neg (by omega)] at D
        refine x_iloadn (x := l4) rfl rfl ?_
        refine x_bipush (v := 30) rfl kb_30 ?_
        refine x_icge (tgt := 33) rfl rfl (ti_ge rfl jk_30 (br_f (by omega) ?_))
        refine x_aloadn (x := 98) rfl rfl ?_
        refine z_getR (N := 16) (b := 32) 0 0 rfl f_0_57 rfl J rfl 12544 ⟨rfl, rfl⟩ rfl ?_
        refine z_getR (N := 20) (b := 66) 1 17 rfl f_0_77 rfl J rfl 4113 ⟨rfl, rfl⟩ rfl ?_
        refine x_iloadn (x := l4) rfl rfl ?_
        refine z_aaldTD rfl hD J rfl rfl (by omega) ⟨fun qb3 => ?_, fun b3 qb3 Tb3 => ?_⟩
        ·
          rw [if_pos (vnn qb3 (show l4.toInt = l4.toInt from by omega))] at D
          refine x_goto (tgt := 34) rfl rfl ?_
          refine x_aret rfl rfl rfl (Or.inl rfl) ?_
          show jX m_X0_readLaws 3 0 0 96 [(0, .ref 98), (4, .int l4)] [.null] _ 0 0 _
          refine x_astoreN (lsx9 := [(5, .null), (0, .ref 98), (4, .int l4)]) rfl rfl rfl ?_
          refine x_aloadN rfl rfl ?_
          refine x_ifnullN (tgt := 161) rfl rfl ?_
          exact jX.sub (jsb_c rfl (jsb_c rfl jsb_n)) (ct_X0_readLaws_r98d_161 hD hQ ih l4 g0 g1 g2 h (jr_of rfl (by omega)) (jr_of rfl (by omega)) (jr_of rfl (by omega)) (jr_of rfl (by omega)) z0 z1 z2 (by omega) J Sm D)
        ·
          rw [if_neg (vns qb3 (show l4.toInt = l4.toInt from by omega))] at D
          try rw [vrs qb3 (show l4.toInt = l4.toInt from by omega)] at D
          refine x_goto (tgt := 34) rfl rfl ?_
          refine x_aret rfl rfl rfl (Or.inr ⟨_, rfl⟩) ?_
          show jX m_X0_readLaws 3 0 0 96 [(0, .ref 98), (4, .int l4)] [.ref b3] _ 0 0 _
          refine x_astore (lsx9 := [(5, .ref b3), (0, .ref 98), (4, .int l4)]) rfl rfl rfl ?_
          refine x_aload (x := b3) rfl rfl ?_
          refine x_ifnull rfl ?_
          refine x_aload (x := b3) rfl rfl ?_
          refine z_getTD 2 rfl f_0_98 rfl Tb3 (fun v4 qv4 => ?_)
          have ev4 := jfull v4
          try rw [vrf qv4] at D
          refine x_aloadn (x := 98) rfl rfl ?_
          refine z_getM (N := 16) (v := g2) 0 11 rfl f_0_41 rfl J rfl z2 ?_
          refine x_icgt (tgt := 161) rfl rfl (ti_gt rfl rfl ⟨fun c5 => ?_, fun c5 => ?_⟩)
          ·
            rw [if_pos (by omega)] at D
            exact jX.sub (jsb_c rfl (jsb_c rfl jsb_n)) (ct_X0_readLaws_r98d_161 hD hQ ih l4 g0 g1 g2 h (jr_of rfl (by omega)) (jr_of rfl (by omega)) (jr_of rfl (by omega)) (jr_of rfl (by omega)) z0 z1 z2 (by omega) J Sm D)
          ·
            rw [if_neg (by omega)] at D
            refine x_aload (x := b3) rfl rfl ?_
            refine z_getTD 1 rfl f_0_101 rfl Tb3 (fun v6 qv6 => ?_)
            have ev6 := jfull v6
            try rw [vrf qv6] at D
            refine x_aloadn (x := 98) rfl rfl ?_
            refine z_getM (N := 16) (v := g1) 0 10 rfl f_0_37 rfl J rfl z1 ?_
            refine x_icgt (tgt := 161) rfl rfl (ti_gt rfl rfl ⟨fun c7 => ?_, fun c7 => ?_⟩)
            ·
              rw [if_pos (by omega)] at D
              exact jX.sub (jsb_c rfl (jsb_c rfl jsb_n)) (ct_X0_readLaws_r98d_161 hD hQ ih l4 g0 g1 g2 h (jr_of rfl (by omega)) (jr_of rfl (by omega)) (jr_of rfl (by omega)) (jr_of rfl (by omega)) z0 z1 z2 (by omega) J Sm D)
            ·
              rw [if_neg (by omega)] at D
              refine x_aloadn (x := 98) rfl rfl ?_
              refine z_getR (N := 16) (b := 99) 0 2 rfl f_0_9 rfl J rfl 12546 ⟨rfl, rfl⟩ rfl ?_
              refine x_iload (x := l4) rfl rfl ?_
              refine x_iconst (v := 1) rfl ki_1 ?_
              refine x_aload (x := b3) rfl rfl ?_
              refine z_getTcD rfl f_0_104 Tb3 (fun v8 qv8 ev8 => ?_)
              try rw [vrf qv8] at D
              refine z_ishlW rfl jk_1 rfl (fun v9 ev9 => ?_)
              have fv9 := jfull v9
              try rw [← ev9] at D
              refine x_iconst (v := 1) rfl ki_1 ?_
              refine z_isubW rfl rfl jk_1 (fun v10 ev10 => ?_)
              have fv10 := jfull v10
              try rw [← ev10] at D
              refine x_aloadn (x := 98) rfl rfl ?_
              refine z_getR (N := 16) (b := 100) 0 3 rfl f_0_15 rfl J rfl 12547 ⟨rfl, rfl⟩ rfl ?_
              refine x_iload (x := l4) rfl rfl ?_
              refine z_iald0 (N := 30) rfl J rfl rfl (by omega) (fun v11 qv11 => ?_)
              have ev11 := jfull v11
              try rw [vrd qv11 (show l4.toInt = l4.toInt from by omega)] at D
              refine x_iconst (v := (-1)) rfl ki_m1 ?_
              refine z_ixorW rfl rfl jk_m1 (fun v12 ev12 => ?_)
              have fv12 := jfull v12
              try rw [← ev12] at D
              refine z_iandW rfl rfl rfl (fun v13 ev13 => ?_)
              have fv13 := jfull v13
              try rw [← ev13] at D
              refine z_iast (N := 30) (l := 0) (u := 30) (w := v13.toInt) rfl hD J Sm rfl rfl rfl (by omega) rfl (wr_99) rfl (fun h w14 J Sm => ?_)
              have Tb3 := jTx_i w14 rfl Tb3
              rw [vww w14 (show l4.toInt = l4.toInt from by omega) (show v13.toInt = v13.toInt from by omega)] at D
              refine x_aloadn (x := 98) rfl rfl ?_
              refine x_iload (x := l4) rfl rfl ?_
              refine x_aload (x := b3) rfl rfl ?_
              refine x_inv (N := m_X0_strikeBy) (As := [.int l4, .ref b3]) (b := 98) (st := []) (dx9 := 2) (mc := 0) (ms := 0) (host := "") 0 rfl t_X0_strikeBy ⟨Or.inl q_0_107, i_X0_strikeBy.1, i_X0_strikeBy.2⟩ ⟨by decide, rfl⟩ (congrArg Prod.fst (J.1.1 98 (0, 16) rfl)) rfl (by decide) rfl rfl ⟨by decide, by decide⟩ (sf_X0_strikeBy_r98d (jr_of rfl (by omega)) hD J Tb3 rfl  (fun h J S15 X16 => ?_))
              have Sm := jSm_tr rfl Sm S15
              have Tb3 := jTx_m S15 rfl Tb3
              rw [X16] at D
              show jX m_X0_readLaws 3 0 0 161 [(5, .ref b3), (0, .ref 98), (4, .int l4)] [] _ 0 0 _
              exact jX.sub (jsb_c rfl (jsb_c rfl jsb_n)) (ct_X0_readLaws_r98d_161 hD hQ ih l4 g0 g1 g2 h (jr_of rfl (by omega)) (jr_of rfl (by omega)) (jr_of rfl (by omega)) (jr_of rfl (by omega)) (jmc S15 rfl (jmo w14 rfl z0)) (jmc S15 rfl (jmo w14 rfl z1)) (jmc S15 rfl (jmo w14 rfl z2)) (by omega) J Sm D)
set_option maxRecDepth 100000 in
set_option maxHeartbeats 4000000 in
theorem ct_X0_readLaws_r98d_52 {Dy : jH → Prop} {h0 : jH} {Q : Option Value → jH → Prop} {dr : jW} (hD : jDk Dy) (hQ : ∀ hx9, jJ jSgX Dy hx9 → jSm fp_X0_readLaws_r98d h0 hx9 → dr = vw hx9 → Q none hx9) : ∀ r : Nat, ∀ (l3 : Int32) (l4 : Int32) (g0 : Int32) (g1 : Int32) (g2 : Int32) (h : jH), 30 - l4.toInt < (r : Int) → 0 ≤ l3.toInt ∧ l3.toInt ≤ 30 → 0 ≤ l4.toInt ∧ l4.toInt ≤ 30 → 0 ≤ g0.toInt ∧ g0.toInt ≤ 30 → 0 ≤ g1.toInt ∧ g1.toInt ≤ 146399 → 0 ≤ g2.toInt ∧ g2.toInt ≤ 146399 → jiv h 32 18 = g0 → jiv h 98 10 = g1 → jiv h 98 11 = g2 → jJ jSgX Dy h → jSm fp_X0_readLaws_r98d h0 h → d_X0_readLaws_r98d_52 r l3.toInt l4.toInt (vw h) = dr → jX m_X0_readLaws 3 0 0 52 [(0, .ref 98), (3, .int l3), (4, .int l4)] [] h 0 0 Q := by
  intro r
  induction r with
  | zero =>
    intro l3 l4 g0 g1 g2 h hm y0 y1 y2 y3 y4 z0 z1 z2  J Sm D
    exfalso
    omega
  | succ r ih =>
    intro l3 l4 g0 g1 g2 h hm y0 y1 y2 y3 y4 z0 z1 z2  J Sm D
    rw [d_X0_readLaws_r98d_52.eq_2] at D
    try rw [vrf z0] at D
    try rw [vrf z1] at D
    try rw [vrf z2] at D
    refine x_iload (x := l4) rfl rfl ?_
    refine x_iloadn (x := l3) rfl rfl ?_
    refine x_icge (tgt := 80) rfl rfl (ti_ge rfl rfl ⟨fun c1 => ?_, fun c1 => ?_⟩)
    ·
      rw [if_pos (by omega)] at D
      refine x_iloadn (x := l3) rfl rfl ?_
      refine x_iconst (v := 1) rfl ki_1 ?_
      refine z_isub rfl rfl jk_1 (by omega) (fun v2 ev2 => ?_)
      refine x_istore (lsx9 := [(4, .int v2), (0, .ref 98), (3, .int l3)]) rfl rfl rfl ?_
      try rw [show (l3.toInt - 1) = v2.toInt from by omega] at D
      exact jX.sub (jsb_c rfl (jsb_c rfl jsb_n)) (ct_X0_readLaws_r98d_85 hD hQ  31 v2 g0 g1 g2 h (by omega) (jr_of rfl (by omega)) (jr_of rfl (by omega)) (jr_of rfl (by omega)) (jr_of rfl (by omega)) z0 z1 z2 J Sm D)
    ·
      rw [if_neg (by omega)] at D
      refine x_aloadn (x := 98) rfl rfl ?_
      refine z_getR (N := 16) (b := 100) 0 3 rfl f_0_15 rfl J rfl 12547 ⟨rfl, rfl⟩ rfl ?_
      refine x_iload (x := l4) rfl rfl ?_
      refine x_iconst (v := 0) rfl ki_0 ?_
      refine z_iast (N := 30) (l := 0) (u := 30) (w := 0) rfl hD J Sm rfl rfl rfl (by omega) jk_0 (wr_100) rfl (fun h w3 J Sm => ?_)
      rw [vww w3 (show l4.toInt = l4.toInt from by omega) (show 0 = (0 : Int32).toInt from by have := jk_0; omega)] at D
      refine x_aloadn (x := 98) rfl rfl ?_
      refine z_getR (N := 16) (b := 99) 0 2 rfl f_0_9 rfl J rfl 12546 ⟨rfl, rfl⟩ rfl ?_
      refine x_iload (x := l4) rfl rfl ?_
      refine x_iconst (v := 0) rfl ki_0 ?_
      refine z_iast (N := 30) (l := 0) (u := 30) (w := 0) rfl hD J Sm rfl rfl rfl (by omega) jk_0 (wr_99) rfl (fun h w4 J Sm => ?_)
      rw [vww w4 (show l4.toInt = l4.toInt from by omega) (show 0 = (0 : Int32).toInt from by have := jk_0; omega)] at D
      refine z_iinc (x := l4) (lsx9 := fun v5 => [(4, .int v5), (0, .ref 98), (3, .int l3)]) rfl rfl rfl jko_1 (by omega) rfl (fun _ => rfl) (fun v5 ev5 => ?_)
      refine x_goto (tgt := 52) rfl rfl ?_
      try rw [show (l4.toInt + 1) = v5.toInt from by omega] at D
      exact jX.sub (jsb_c rfl (jsb_c rfl (jsb_c rfl jsb_n))) (ih l3 v5 g0 g1 g2 h (by omega) (jr_of rfl (by omega)) (jr_of rfl (by omega)) (jr_of rfl (by omega)) (jr_of rfl (by omega)) (jr_of rfl (by omega)) (jmo w4 rfl (jmo w3 rfl z0)) (jmo w4 rfl (jmo w3 rfl z1)) (jmo w4 rfl (jmo w3 rfl z2)) J Sm D)
set_option maxRecDepth 100000 in
set_option maxHeartbeats 4000000 in
theorem sf_X0_readLaws_r98d {Dy : jH → Prop} {h : jH} {Q : Option Value → jH → Prop} {dr : jW} {a1 : Int32} {a2 : Int32} (y1 : 0 ≤ a1.toInt ∧ a1.toInt ≤ 146399) (y2 : 0 ≤ a2.toInt ∧ a2.toInt ≤ 146399) (hD : jDk Dy) (J : jJ jSgX Dy h) (D : d_X0_readLaws_r98d a1.toInt a2.toInt (vw h) = dr) (hQ : ∀ hx9, jJ jSgX Dy hx9 → jSm fp_X0_readLaws_r98d h hx9 → dr = vw hx9 → Q none hx9) : jC m_X0_readLaws 3 0 0 [.ref 98, .int a1, .int a2] h Q := by
  refine jC.of rfl k_X0_readLaws rfl ?_
  have Sm := jSm_rf fp_X0_readLaws_r98d h
  show jX m_X0_readLaws 3 0 0 0 [(0, .ref 98), (1, .int a1), (2, .int a2)] [] _ 0 0 _
  unfold d_X0_readLaws_r98d at D
  refine x_aloadn (x := 98) rfl rfl ?_
  refine x_iloadn (x := a1) rfl rfl ?_
  refine z_putI (N := 16) (w := a1.toInt) 0 10 rfl f_0_37 rfl (jfin_no TX0 RX0 16 rfl rfl) hD J Sm rfl rfl rfl (pw_98_10 (by omega)) rfl (fun h w1 J Sm => ?_)
  rw [vwf w1 (show a1.toInt = a1.toInt from by omega)] at D
  refine x_aloadn (x := 98) rfl rfl ?_
  refine x_iloadn (x := a2) rfl rfl ?_
  refine z_putI (N := 16) (w := a2.toInt) 0 11 rfl f_0_41 rfl (jfin_no TX0 RX0 16 rfl rfl) hD J Sm rfl rfl rfl (pw_98_11 (by omega)) rfl (fun h w2 J Sm => ?_)
  rw [vwf w2 (show a2.toInt = a2.toInt from by omega)] at D
  refine x_aloadn (x := 98) rfl rfl ?_
  refine z_getR (N := 16) (b := 101) 0 4 rfl f_0_18 rfl J rfl 12548 ⟨rfl, rfl⟩ rfl ?_
  refine x_aloadn (x := 98) rfl rfl ?_
  refine z_getM (N := 16) (v := a1) 0 10 rfl f_0_37 rfl J rfl (jmo w2 rfl (jmw w1)) ?_
  refine x_aloadn (x := 98) rfl rfl ?_
  refine z_getM (N := 16) (v := a2) 0 11 rfl f_0_41 rfl J rfl (jmw w2) ?_
  refine x_aloadn (x := 98) rfl rfl ?_
  refine z_getR (N := 16) (b := 32) 0 0 rfl f_0_57 rfl J rfl 12544 ⟨rfl, rfl⟩ rfl ?_
  refine z_getI0 (N := 20) 1 19 rfl f_0_81 rfl J rfl (fun v3 qv3 => ?_)
  have ev3 := jfull v3
  try rw [vrf (jmb_w w1 (jmb_w w2 qv3 rfl) rfl)] at D
  refine x_inst (N := m_X11_isFresh) (As := [.ref 101, .int a1, .int a2, .int v3]) (st := []) (dx9 := 2) (mc := 0) (ms := 0) (host := "ParishChest") rfl t_X11_isFresh ⟨Or.inr q_0_84, s_X11_isFresh⟩ rfl (by decide) rfl rfl ⟨by decide, by decide⟩ (jC.of rfl k_X11_isFresh rfl ?_)
  show jX m_X11_isFresh 2 0 0 0 [(0, .ref 101), (1, .int a1), (2, .int a2), (3, .int v3)] [] _ 0 0 _
  refine x_aloadn (x := 101) rfl rfl ?_
  refine z_alen (N := 3) (v := 3) rfl J rfl rfl (by decide) ?_
  refine x_iconst (v := 3) rfl ki_3 ?_
  refine x_icge (tgt := 8) rfl rfl (ti_ge jk_3 jk_3 (br_t (by omega) ?_))
  refine x_aloadn (x := 101) rfl rfl ?_
  refine x_iconst (v := 0) rfl ki_0 ?_
  refine z_iald0 (N := 3) rfl J rfl jk_0 (by omega) (fun v4 qv4 => ?_)
  have ev4 := jfull v4
  try rw [vrn (n := 0) (by decide) (jmb_w w1 (jmb_w w2 qv4 rfl) rfl)] at D
  refine x_iloadn (x := a1) rfl rfl ?_
  refine x_icne (tgt := 33) rfl rfl (ti_ne rfl rfl ⟨fun c5 => ?_, fun c5 => ?_⟩)
  ·
    rw [if_neg (by omega)] at D
    refine x_iconst (v := 0) rfl ki_0 ?_
    refine x_istore (lsx9 := [(4, .int 0), (0, .ref 101), (1, .int a1), (2, .int a2), (3, .int v3)]) rfl rfl rfl ?_
    refine x_aloadn (x := 101) rfl rfl ?_
    refine x_iconst (v := 0) rfl ki_0 ?_
    refine x_iloadn (x := a1) rfl rfl ?_
    refine z_iast (N := 3) (l := 0) (u := 3) (w := a1.toInt) rfl hD J Sm rfl rfl jk_0 (by omega) rfl (wr_101) rfl (fun h w6 J Sm => ?_)
    rw [vwn (n := 0) (by decide) w6 (show a1.toInt = a1.toInt from by omega)] at D
    refine x_aloadn (x := 101) rfl rfl ?_
    refine x_iconst (v := 1) rfl ki_1 ?_
    refine x_iloadn (x := a2) rfl rfl ?_
    refine z_iast (N := 3) (l := 0) (u := 3) (w := a2.toInt) rfl hD J Sm rfl rfl jk_1 (by omega) rfl (wr_101) rfl (fun h w7 J Sm => ?_)
    rw [vwn (n := 1) (by decide) w7 (show a2.toInt = a2.toInt from by omega)] at D
    refine x_aloadn (x := 101) rfl rfl ?_
    refine x_iconst (v := 2) rfl ki_2 ?_
    refine x_iloadn (x := v3) rfl rfl ?_
    refine z_iast (N := 3) (l := 0) (u := 3) (w := v3.toInt) rfl hD J Sm rfl rfl jk_2 (by omega) rfl (wr_101) rfl (fun h w8 J Sm => ?_)
    rw [vwn (n := 2) (by decide) w8 (show v3.toInt = v3.toInt from by omega)] at D
    refine x_iload (x := 0) rfl rfl ?_
    refine x_zret rfl rfl (by decide) ?_
    show jX m_X0_readLaws 3 0 0 32 [(0, .ref 98), (1, .int a1), (2, .int a2)] [.int 0] _ 0 0 _
    refine x_ifeq (tgt := 36) rfl rfl (ti_eq jk_0 jk_0 (br_t (by omega) ?_))
    refine x_bipush (v := 30) rfl kb_30 ?_
    refine x_aloadn (x := 98) rfl rfl ?_
    refine z_getR (N := 16) (b := 32) 0 0 rfl f_0_57 rfl J rfl 12544 ⟨rfl, rfl⟩ rfl ?_
    refine z_getI (N := 20) 1 18 rfl f_0_72 rfl J rfl sg_32_18_19_1_0_1 (fun v9 qv9 ev9 => ?_)
    try rw [vrf (jmb_w w1 (jmb_w w2 (jmb_w w6 (jmb_w w7 (jmb_w w8 qv9 rfl) rfl) rfl) rfl) rfl)] at D
    refine z_mmin rfl q_0_88 (by decide) rfl jk_30 rfl (fun v10 ev10 => ?_)
    refine x_istoren (lsx9 := [(3, .int v10), (0, .ref 98), (1, .int a1), (2, .int a2)]) rfl rfl rfl ?_
    refine x_iconst (v := 0) rfl ki_0 ?_
    refine x_istore (lsx9 := [(4, .int 0), (3, .int v10), (0, .ref 98), (1, .int a1), (2, .int a2)]) rfl rfl rfl ?_
    try rw [show (min 30 v9.toInt) = v10.toInt from by omega] at D
    exact jX.sub (jsb_c rfl (jsb_c rfl (jsb_c rfl jsb_n))) (ct_X0_readLaws_r98d_52 hD hQ  31 v10 0 v9 a1 a2 h (by have := jk_0; omega) (jr_of rfl (by omega)) (jr_of jk_0 (by omega)) (jr_of rfl (by omega)) (jr_of rfl (by omega)) (jr_of rfl (by omega)) qv9 (jmo w8 rfl (jmo w7 rfl (jmo w6 rfl (jmo w2 rfl (jmw w1))))) (jmo w8 rfl (jmo w7 rfl (jmo w6 rfl (jmw w2)))) J Sm (by rw [jk_0]; exact D))
  ·
    rw [if_pos (by omega)] at D
    refine x_aloadn (x := 101) rfl rfl ?_
    refine x_iconst (v := 1) rfl ki_1 ?_
    refine z_iald0 (N := 3) rfl J rfl jk_1 (by omega) (fun v11 qv11 => ?_)
    have ev11 := jfull v11
    try rw [vrn (n := 1) (by decide) (jmb_w w1 (jmb_w w2 qv11 rfl) rfl)] at D
    refine x_iloadn (x := a2) rfl rfl ?_
    refine x_icne (tgt := 33) rfl rfl (ti_ne rfl rfl ⟨fun c12 => ?_, fun c12 => ?_⟩)
    ·
      rw [if_neg (by omega)] at D
      refine x_iconst (v := 0) rfl ki_0 ?_
      refine x_istore (lsx9 := [(4, .int 0), (0, .ref 101), (1, .int a1), (2, .int a2), (3, .int v3)]) rfl rfl rfl ?_
      refine x_aloadn (x := 101) rfl rfl ?_
      refine x_iconst (v := 0) rfl ki_0 ?_
      refine x_iloadn (x := a1) rfl rfl ?_
      refine z_iast (N := 3) (l := 0) (u := 3) (w := a1.toInt) rfl hD J Sm rfl rfl jk_0 (by omega) rfl (wr_101) rfl (fun h w13 J Sm => ?_)
      rw [vwn (n := 0) (by decide) w13 (show a1.toInt = a1.toInt from by omega)] at D
      refine x_aloadn (x := 101) rfl rfl ?_
      refine x_iconst (v := 1) rfl ki_1 ?_
      refine x_iloadn (x := a2) rfl rfl ?_
      refine z_iast (N := 3) (l := 0) (u := 3) (w := a2.toInt) rfl hD J Sm rfl rfl jk_1 (by omega) rfl (wr_101) rfl (fun h w14 J Sm => ?_)
      rw [vwn (n := 1) (by decide) w14 (show a2.toInt = a2.toInt from by omega)] at D
      refine x_aloadn (x := 101) rfl rfl ?_
      refine x_iconst (v := 2) rfl ki_2 ?_
      refine x_iloadn (x := v3) rfl rfl ?_
      refine z_iast (N := 3) (l := 0) (u := 3) (w := v3.toInt) rfl hD J Sm rfl rfl jk_2 (by omega) rfl (wr_101) rfl (fun h w15 J Sm => ?_)
      rw [vwn (n := 2) (by decide) w15 (show v3.toInt = v3.toInt from by omega)] at D
      refine x_iload (x := 0) rfl rfl ?_
      refine x_zret rfl rfl (by decide) ?_
      show jX m_X0_readLaws 3 0 0 32 [(0, .ref 98), (1, .int a1), (2, .int a2)] [.int 0] _ 0 0 _
      refine x_ifeq (tgt := 36) rfl rfl (ti_eq jk_0 jk_0 (br_t (by omega) ?_))
      refine x_bipush (v := 30) rfl kb_30 ?_
      refine x_aloadn (x := 98) rfl rfl ?_
      refine z_getR (N := 16) (b := 32) 0 0 rfl f_0_57 rfl J rfl 12544 ⟨rfl, rfl⟩ rfl ?_
      refine z_getI (N := 20) 1 18 rfl f_0_72 rfl J rfl sg_32_18_19_1_0_1 (fun v16 qv16 ev16 => ?_)
      try rw [vrf (jmb_w w1 (jmb_w w2 (jmb_w w13 (jmb_w w14 (jmb_w w15 qv16 rfl) rfl) rfl) rfl) rfl)] at D
      refine z_mmin rfl q_0_88 (by decide) rfl jk_30 rfl (fun v17 ev17 => ?_)
      refine x_istoren (lsx9 := [(3, .int v17), (0, .ref 98), (1, .int a1), (2, .int a2)]) rfl rfl rfl ?_
      refine x_iconst (v := 0) rfl ki_0 ?_
      refine x_istore (lsx9 := [(4, .int 0), (3, .int v17), (0, .ref 98), (1, .int a1), (2, .int a2)]) rfl rfl rfl ?_
      try rw [show (min 30 v16.toInt) = v17.toInt from by omega] at D
      exact jX.sub (jsb_c rfl (jsb_c rfl (jsb_c rfl jsb_n))) (ct_X0_readLaws_r98d_52 hD hQ  31 v17 0 v16 a1 a2 h (by have := jk_0; omega) (jr_of rfl (by omega)) (jr_of jk_0 (by omega)) (jr_of rfl (by omega)) (jr_of rfl (by omega)) (jr_of rfl (by omega)) qv16 (jmo w15 rfl (jmo w14 rfl (jmo w13 rfl (jmo w2 rfl (jmw w1))))) (jmo w15 rfl (jmo w14 rfl (jmo w13 rfl (jmw w2)))) J Sm (by rw [jk_0]; exact D))
    ·
      rw [if_pos (by omega)] at D
      refine x_aloadn (x := 101) rfl rfl ?_
      refine x_iconst (v := 2) rfl ki_2 ?_
      refine z_iald0 (N := 3) rfl J rfl jk_2 (by omega) (fun v18 qv18 => ?_)
      have ev18 := jfull v18
      try rw [vrn (n := 2) (by decide) (jmb_w w1 (jmb_w w2 qv18 rfl) rfl)] at D
      refine x_iloadn (x := v3) rfl rfl ?_
      refine x_icne (tgt := 33) rfl rfl (ti_ne rfl rfl ⟨fun c19 => ?_, fun c19 => ?_⟩)
      ·
        rw [if_neg (by omega)] at D
        refine x_iconst (v := 0) rfl ki_0 ?_
        refine x_istore (lsx9 := [(4, .int 0), (0, .ref 101), (1, .int a1), (2, .int a2), (3, .int v3)]) rfl rfl rfl ?_
        refine x_aloadn (x := 101) rfl rfl ?_
        refine x_iconst (v := 0) rfl ki_0 ?_
        refine x_iloadn (x := a1) rfl rfl ?_
        refine z_iast (N := 3) (l := 0) (u := 3) (w := a1.toInt) rfl hD J Sm rfl rfl jk_0 (by omega) rfl (wr_101) rfl (fun h w20 J Sm => ?_)
        rw [vwn (n := 0) (by decide) w20 (show a1.toInt = a1.toInt from by omega)] at D
        refine x_aloadn (x := 101) rfl rfl ?_
        refine x_iconst (v := 1) rfl ki_1 ?_
        refine x_iloadn (x := a2) rfl rfl ?_
        refine z_iast (N := 3) (l := 0) (u := 3) (w := a2.toInt) rfl hD J Sm rfl rfl jk_1 (by omega) rfl (wr_101) rfl (fun h w21 J Sm => ?_)
        rw [vwn (n := 1) (by decide) w21 (show a2.toInt = a2.toInt from by omega)] at D
        refine x_aloadn (x := 101) rfl rfl ?_
        refine x_iconst (v := 2) rfl ki_2 ?_
        refine x_iloadn (x := v3) rfl rfl ?_
        refine z_iast (N := 3) (l := 0) (u := 3) (w := v3.toInt) rfl hD J Sm rfl rfl jk_2 (by omega) rfl (wr_101) rfl (fun h w22 J Sm => ?_)
        rw [vwn (n := 2) (by decide) w22 (show v3.toInt = v3.toInt from by omega)] at D
        refine x_iload (x := 0) rfl rfl ?_
        refine x_zret rfl rfl (by decide) ?_
        show jX m_X0_readLaws 3 0 0 32 [(0, .ref 98), (1, .int a1), (2, .int a2)] [.int 0] _ 0 0 _
        refine x_ifeq (tgt := 36) rfl rfl (ti_eq jk_0 jk_0 (br_t (by omega) ?_))
        refine x_bipush (v := 30) rfl kb_30 ?_
        refine x_aloadn (x := 98) rfl rfl ?_
        refine z_getR (N := 16) (b := 32) 0 0 rfl f_0_57 rfl J rfl 12544 ⟨rfl, rfl⟩ rfl ?_
        refine z_getI (N := 20) 1 18 rfl f_0_72 rfl J rfl sg_32_18_19_1_0_1 (fun v23 qv23 ev23 => ?_)
        try rw [vrf (jmb_w w1 (jmb_w w2 (jmb_w w20 (jmb_w w21 (jmb_w w22 qv23 rfl) rfl) rfl) rfl) rfl)] at D
        refine z_mmin rfl q_0_88 (by decide) rfl jk_30 rfl (fun v24 ev24 => ?_)
        refine x_istoren (lsx9 := [(3, .int v24), (0, .ref 98), (1, .int a1), (2, .int a2)]) rfl rfl rfl ?_
        refine x_iconst (v := 0) rfl ki_0 ?_
        refine x_istore (lsx9 := [(4, .int 0), (3, .int v24), (0, .ref 98), (1, .int a1), (2, .int a2)]) rfl rfl rfl ?_
        try rw [show (min 30 v23.toInt) = v24.toInt from by omega] at D
        exact jX.sub (jsb_c rfl (jsb_c rfl (jsb_c rfl jsb_n))) (ct_X0_readLaws_r98d_52 hD hQ  31 v24 0 v23 a1 a2 h (by have := jk_0; omega) (jr_of rfl (by omega)) (jr_of jk_0 (by omega)) (jr_of rfl (by omega)) (jr_of rfl (by omega)) (jr_of rfl (by omega)) qv23 (jmo w22 rfl (jmo w21 rfl (jmo w20 rfl (jmo w2 rfl (jmw w1))))) (jmo w22 rfl (jmo w21 rfl (jmo w20 rfl (jmw w2)))) J Sm (by rw [jk_0]; exact D))
      ·
        rw [if_pos (by omega)] at D
        refine x_iconst (v := 1) rfl ki_1 ?_
        refine x_goto (tgt := 34) rfl rfl ?_
        refine x_istore (lsx9 := [(4, .int 1), (0, .ref 101), (1, .int a1), (2, .int a2), (3, .int v3)]) rfl rfl rfl ?_
        refine x_aloadn (x := 101) rfl rfl ?_
        refine x_iconst (v := 0) rfl ki_0 ?_
        refine x_iloadn (x := a1) rfl rfl ?_
        refine z_iast (N := 3) (l := 0) (u := 3) (w := a1.toInt) rfl hD J Sm rfl rfl jk_0 (by omega) rfl (wr_101) rfl (fun h w25 J Sm => ?_)
        rw [vwn (n := 0) (by decide) w25 (show a1.toInt = a1.toInt from by omega)] at D
        refine x_aloadn (x := 101) rfl rfl ?_
        refine x_iconst (v := 1) rfl ki_1 ?_
        refine x_iloadn (x := a2) rfl rfl ?_
        refine z_iast (N := 3) (l := 0) (u := 3) (w := a2.toInt) rfl hD J Sm rfl rfl jk_1 (by omega) rfl (wr_101) rfl (fun h w26 J Sm => ?_)
        rw [vwn (n := 1) (by decide) w26 (show a2.toInt = a2.toInt from by omega)] at D
        refine x_aloadn (x := 101) rfl rfl ?_
        refine x_iconst (v := 2) rfl ki_2 ?_
        refine x_iloadn (x := v3) rfl rfl ?_
        refine z_iast (N := 3) (l := 0) (u := 3) (w := v3.toInt) rfl hD J Sm rfl rfl jk_2 (by omega) rfl (wr_101) rfl (fun h w27 J Sm => ?_)
        rw [vwn (n := 2) (by decide) w27 (show v3.toInt = v3.toInt from by omega)] at D
        refine x_iload (x := 1) rfl rfl ?_
        refine x_zret rfl rfl (by decide) ?_
        show jX m_X0_readLaws 3 0 0 32 [(0, .ref 98), (1, .int a1), (2, .int a2)] [.int 1] _ 0 0 _
        refine x_ifeq (tgt := 36) rfl rfl (ti_eq jk_1 jk_0 (br_f (by omega) ?_))
        refine x_vret rfl rfl ?_
        exact hQ _ J Sm D.symm
def fp_X0_weigh_r98d : jFp := [(85, 0, 4), (98, 12, 13), (98, 13, 14), (98, 14, 15), (98, 15, 16), (106, 0, 100)]
set_option maxRecDepth 100000 in
set_option maxHeartbeats 4000000 in
theorem ct_X0_weigh_r98d_200142 {Dy : jH → Prop} {h0 : jH} {Q : Option Value → jH → Prop} {dr : (Int × jW)} (hD : jDk Dy) (hQ : ∀ (v : Int32) hx9, 0 ≤ v.toInt ∧ v.toInt ≤ 1 → jJ jSgX Dy hx9 → jSm fp_X0_weigh_r98d h0 hx9 → dr.1 = v.toInt → dr.2 = vw hx9 → Q (some (.int v)) hx9) : ∀ (h : jH), jJ jSgX Dy h → jSm fp_X0_weigh_r98d h0 h → d_X0_weigh_r98d_200142  (vw h) = dr → jX m_X0_weigh 6 0 0 142 [] [.int 0] h 0 0 Q := by
  intro  h    J Sm D
  unfold d_X0_weigh_r98d_200142 at D
  refine x_zret rfl rfl (by decide) ?_
  exact hQ _ _ (jr_of jk_0 (by omega)) J Sm ((congrArg Prod.fst D).symm.trans (show 0 = (0 : Int32).toInt from by have := jk_0; omega)) (congrArg Prod.snd D).symm
set_option maxRecDepth 100000 in
set_option maxHeartbeats 4000000 in
theorem ct_X0_weigh_r98d_300142 {Dy : jH → Prop} {h0 : jH} {Q : Option Value → jH → Prop} {dr : (Int × jW)} (hD : jDk Dy) (hQ : ∀ (v : Int32) hx9, 0 ≤ v.toInt ∧ v.toInt ≤ 1 → jJ jSgX Dy hx9 → jSm fp_X0_weigh_r98d h0 hx9 → dr.1 = v.toInt → dr.2 = vw hx9 → Q (some (.int v)) hx9) : ∀ (h : jH), jJ jSgX Dy h → jSm fp_X0_weigh_r98d h0 h → d_X0_weigh_r98d_300142  (vw h) = dr → jX m_X0_weigh 6 0 0 142 [] [.int 1] h 0 0 Q := by
  intro  h    J Sm D
  unfold d_X0_weigh_r98d_300142 at D
  refine x_zret rfl rfl (by decide) ?_
  exact hQ _ _ (jr_of jk_1 (by omega)) J Sm ((congrArg Prod.fst D).symm.trans (show 1 = (1 : Int32).toInt from by have := jk_1; omega)) (congrArg Prod.snd D).symm
set_option maxRecDepth 100000 in
set_option maxHeartbeats 4000000 in
theorem ct_X0_weigh_r98d_117 {Dy : jH → Prop} {h0 : jH} {Q : Option Value → jH → Prop} {dr : (Int × jW)} {K18 : Int → Int → Int → Int → jW → (Int × jW)} {K34 : Int → Int → Int → Int → Int → jW → (Int × jW)} {R18 : Int} {R34 : Int} (hD : jDk Dy) (hQ : ∀ (v : Int32) hx9, 0 ≤ v.toInt ∧ v.toInt ≤ 1 → jJ jSgX Dy hx9 → jSm fp_X0_weigh_r98d h0 hx9 → dr.1 = v.toInt → dr.2 = vw hx9 → Q (some (.int v)) hx9) (k18 : ∀ (l1 : Int32) (l2 : Int32) (l3 : Int32) (l4 : Int32) (g0 : Int32) (g1 : Int32) (h : jH), l4.toInt - (-1) < R18 → 1 ≤ l1.toInt ∧ l1.toInt ≤ 7 → 0 ≤ l2.toInt ∧ l2.toInt ≤ 2 → (-1) ≤ l3.toInt ∧ l3.toInt ≤ 599 → (-1) ≤ l4.toInt ∧ l4.toInt ≤ 1 → (-1) ≤ g0.toInt ∧ g0.toInt ≤ 359 → jiv h 98 13 = g0 → jiv h 98 15 = g1 → jJ jSgX Dy h → jSm fp_X0_weigh_r98d h0 h → K18 l1.toInt l2.toInt l3.toInt l4.toInt (vw h) = dr → jX m_X0_weigh 6 0 0 18 [(0, .ref 98), (1, .int l1), (2, .int l2), (3, .int l3), (4, .int l4)] [] h 0 0 Q) (k34 : ∀ (l1 : Int32) (l2 : Int32) (l3 : Int32) (l4 : Int32) (l5 : Int32) (g0 : Int32) (g1 : Int32) (g2 : Int32) (h : jH), l5.toInt - (-1) < R34 → 1 ≤ l1.toInt ∧ l1.toInt ≤ 7 → 0 ≤ l2.toInt ∧ l2.toInt ≤ 2 → (-1) ≤ l3.toInt ∧ l3.toInt ≤ 599 → 0 ≤ l4.toInt ∧ l4.toInt ≤ 1 → (-1) ≤ l5.toInt ∧ l5.toInt ≤ 29 → 0 ≤ g0.toInt ∧ g0.toInt ≤ 30 → (-1) ≤ g1.toInt ∧ g1.toInt ≤ 359 → jiv h 32 18 = g0 → jiv h 98 13 = g1 → jiv h 98 15 = g2 → l4.toInt - (-1) ≤ R18 → jJ jSgX Dy h → jSm fp_X0_weigh_r98d h0 h → K34 l1.toInt l2.toInt l3.toInt l4.toInt l5.toInt (vw h) = dr → jX m_X0_weigh 6 0 0 34 [(0, .ref 98), (1, .int l1), (2, .int l2), (3, .int l3), (4, .int l4), (5, .int l5)] [] h 0 0 Q) : ∀ (l1 : Int32) (l2 : Int32) (l3 : Int32) (l4 : Int32) (l5 : Int32) (g0 : Int32) (g1 : Int32) (g2 : Int32) (h : jH), 1 ≤ l1.toInt ∧ l1.toInt ≤ 7 → 0 ≤ l2.toInt ∧ l2.toInt ≤ 2 → (-1) ≤ l3.toInt ∧ l3.toInt ≤ 599 → 0 ≤ l4.toInt ∧ l4.toInt ≤ 1 → 0 ≤ l5.toInt ∧ l5.toInt ≤ 29 → 0 ≤ g0.toInt ∧ g0.toInt ≤ 30 → (-1) ≤ g1.toInt ∧ g1.toInt ≤ 359 → jiv h 32 18 = g0 → jiv h 98 13 = g1 → jiv h 98 15 = g2 → l4.toInt - (-1) ≤ R18 → l5.toInt - (-1) ≤ R34 → jJ jSgX Dy h → jSm fp_X0_weigh_r98d h0 h → d_X0_weigh_r98d_117 K18 K34  l1.toInt l2.toInt l3.toInt l4.toInt l5.toInt (vw h) = dr → jX m_X0_weigh 6 0 0 117 [(0, .ref 98), (1, .int l1), (2, .int l2), (3, .int l3), (4, .int l4), (5, .int l5)] [] h 0 0 Q := by
  intro l1 l2 l3 l4 l5 g0 g1 g2 h y0 y1 y2 y3 y4 y5 y6 z0 z1 z2 m18 m34 J Sm D
  have eg2 := jfull g2
  unfold d_X0_weigh_r98d_117 at D
  try rw [vrf z0] at D
  try rw [vrf z1] at D
  try rw [vrf z2] at D
  refine z_iinc (x := l5) (lsx9 := fun v1 => [(5, .int v1), (0, .ref 98), (1, .int l1), (2, .int l2), (3, .int l3), (4, .int l4)]) rfl rfl rfl jko_m1 (by omega) rfl (fun _ => rfl) (fun v1 ev1 => ?_)
  refine x_goto (tgt := 34) rfl rfl ?_
  try rw [show (l5.toInt + (-1)) = v1.toInt from by omega] at D
  exact jX.sub (jsb_c rfl (jsb_c rfl (jsb_c rfl (jsb_c rfl (jsb_c rfl (jsb_c rfl jsb_n)))))) (k34 l1 l2 l3 l4 v1 g0 g1 g2 h (by omega) (jr_of rfl (by omega)) (jr_of rfl (by omega)) (jr_of rfl (by omega)) (jr_of rfl (by omega)) (jr_of rfl (by omega)) (jr_of rfl (by omega)) (jr_of rfl (by omega)) z0 z1 z2 (by omega) J Sm D)
set_option maxRecDepth 100000 in
set_option maxHeartbeats 4000000 in
theorem ct_X0_weigh_r98d_111 {Dy : jH → Prop} {h0 : jH} {Q : Option Value → jH → Prop} {dr : (Int × jW)} {K18 : Int → Int → Int → Int → jW → (Int × jW)} {K34 : Int → Int → Int → Int → Int → jW → (Int × jW)} {K74 : Int → Int → Int → Int → Int → Nat → Int → jW → (Int × jW)} {R18 : Int} {R34 : Int} {R74 : Int} (hD : jDk Dy) (hQ : ∀ (v : Int32) hx9, 0 ≤ v.toInt ∧ v.toInt ≤ 1 → jJ jSgX Dy hx9 → jSm fp_X0_weigh_r98d h0 hx9 → dr.1 = v.toInt → dr.2 = vw hx9 → Q (some (.int v)) hx9) (k18 : ∀ (l1 : Int32) (l2 : Int32) (l3 : Int32) (l4 : Int32) (g0 : Int32) (g1 : Int32) (h : jH), l4.toInt - (-1) < R18 → 1 ≤ l1.toInt ∧ l1.toInt ≤ 7 → 0 ≤ l2.toInt ∧ l2.toInt ≤ 2 → (-1) ≤ l3.toInt ∧ l3.toInt ≤ 599 → (-1) ≤ l4.toInt ∧ l4.toInt ≤ 1 → (-1) ≤ g0.toInt ∧ g0.toInt ≤ 359 → jiv h 98 13 = g0 → jiv h 98 15 = g1 → jJ jSgX Dy h → jSm fp_X0_weigh_r98d h0 h → K18 l1.toInt l2.toInt l3.toInt l4.toInt (vw h) = dr → jX m_X0_weigh 6 0 0 18 [(0, .ref 98), (1, .int l1), (2, .int l2), (3, .int l3), (4, .int l4)] [] h 0 0 Q) (k34 : ∀ (l1 : Int32) (l2 : Int32) (l3 : Int32) (l4 : Int32) (l5 : Int32) (g0 : Int32) (g1 : Int32) (g2 : Int32) (h : jH), l5.toInt - (-1) < R34 → 1 ≤ l1.toInt ∧ l1.toInt ≤ 7 → 0 ≤ l2.toInt ∧ l2.toInt ≤ 2 → (-1) ≤ l3.toInt ∧ l3.toInt ≤ 599 → 0 ≤ l4.toInt ∧ l4.toInt ≤ 1 → (-1) ≤ l5.toInt ∧ l5.toInt ≤ 29 → 0 ≤ g0.toInt ∧ g0.toInt ≤ 30 → (-1) ≤ g1.toInt ∧ g1.toInt ≤ 359 → jiv h 32 18 = g0 → jiv h 98 13 = g1 → jiv h 98 15 = g2 → l4.toInt - (-1) ≤ R18 → jJ jSgX Dy h → jSm fp_X0_weigh_r98d h0 h → K34 l1.toInt l2.toInt l3.toInt l4.toInt l5.toInt (vw h) = dr → jX m_X0_weigh 6 0 0 34 [(0, .ref 98), (1, .int l1), (2, .int l2), (3, .int l3), (4, .int l4), (5, .int l5)] [] h 0 0 Q) (k74 : ∀ (l1 : Int32) (l2 : Int32) (l3 : Int32) (l4 : Int32) (l5 : Int32) (l6 : Nat) (l7 : Int32) (g0 : Int32) (g1 : Int32) (g2 : Int32) (h : jH), l7.toInt - (-1) < R74 → 1 ≤ l1.toInt ∧ l1.toInt ≤ 7 → 0 ≤ l2.toInt ∧ l2.toInt ≤ 2 → (-1) ≤ l3.toInt ∧ l3.toInt ≤ 599 → 0 ≤ l4.toInt ∧ l4.toInt ≤ 1 → 0 ≤ l5.toInt ∧ l5.toInt ≤ 29 → (-1) ≤ l7.toInt ∧ l7.toInt ≤ 11 → 1 ≤ g0.toInt ∧ g0.toInt ≤ 30 → (-1) ≤ g1.toInt ∧ g1.toInt ≤ 359 → jTx h l6 → jiv h 32 18 = g0 → jiv h 98 13 = g1 → jiv h 98 15 = g2 → l4.toInt - (-1) ≤ R18 → l5.toInt - (-1) ≤ R34 → jJ jSgX Dy h → jSm fp_X0_weigh_r98d h0 h → K74 l1.toInt l2.toInt l3.toInt l4.toInt l5.toInt l6 l7.toInt (vw h) = dr → jX m_X0_weigh 6 0 0 74 [(0, .ref 98), (1, .int l1), (2, .int l2), (3, .int l3), (4, .int l4), (5, .int l5), (6, .ref l6), (7, .int l7)] [] h 0 0 Q) : ∀ (l1 : Int32) (l2 : Int32) (l3 : Int32) (l4 : Int32) (l5 : Int32) (l6 : Nat) (l7 : Int32) (g0 : Int32) (g1 : Int32) (g2 : Int32) (h : jH), 1 ≤ l1.toInt ∧ l1.toInt ≤ 7 → 0 ≤ l2.toInt ∧ l2.toInt ≤ 2 → (-1) ≤ l3.toInt ∧ l3.toInt ≤ 599 → 0 ≤ l4.toInt ∧ l4.toInt ≤ 1 → 0 ≤ l5.toInt ∧ l5.toInt ≤ 29 → 0 ≤ l7.toInt ∧ l7.toInt ≤ 11 → 1 ≤ g0.toInt ∧ g0.toInt ≤ 30 → (-1) ≤ g1.toInt ∧ g1.toInt ≤ 359 → jTx h l6 → jiv h 32 18 = g0 → jiv h 98 13 = g1 → jiv h 98 15 = g2 → l4.toInt - (-1) ≤ R18 → l5.toInt - (-1) ≤ R34 → l7.toInt - (-1) ≤ R74 → jJ jSgX Dy h → jSm fp_X0_weigh_r98d h0 h → d_X0_weigh_r98d_111 K18 K34 K74  l1.toInt l2.toInt l3.toInt l4.toInt l5.toInt l6 l7.toInt (vw h) = dr → jX m_X0_weigh 6 0 0 111 [(0, .ref 98), (1, .int l1), (2, .int l2), (3, .int l3), (4, .int l4), (5, .int l5), (6, .ref l6), (7, .int l7)] [] h 0 0 Q := by
  intro l1 l2 l3 l4 l5 l6 l7 g0 g1 g2 h y0 y1 y2 y3 y4 y5 y6 y7 Tl6 z0 z1 z2 m18 m34 m74 J Sm D
  have eg2 := jfull g2
  unfold d_X0_weigh_r98d_111 at D
  try rw [vrf z0] at D
  try rw [vrf z1] at D
  try rw [vrf z2] at D
  refine z_iinc (x := l7) (lsx9 := fun v1 => [(7, .int v1), (0, .ref 98), (1, .int l1), (2, .int l2), (3, .int l3), (4, .int l4), (5, .int l5), (6, .ref l6)]) rfl rfl rfl jko_m1 (by omega) rfl (fun _ => rfl) (fun v1 ev1 => ?_)
  refine x_goto (tgt := 74) rfl rfl ?_
  try rw [show (l7.toInt + (-1)) = v1.toInt from by omega] at D
  exact jX.sub (jsb_c rfl (jsb_c rfl (jsb_c rfl (jsb_c rfl (jsb_c rfl (jsb_c rfl (jsb_c rfl (jsb_c rfl jsb_n)))))))) (k74 l1 l2 l3 l4 l5 l6 v1 g0 g1 g2 h (by omega) (jr_of rfl (by omega)) (jr_of rfl (by omega)) (jr_of rfl (by omega)) (jr_of rfl (by omega)) (jr_of rfl (by omega)) (jr_of rfl (by omega)) (jr_of rfl (by omega)) (jr_of rfl (by omega)) Tl6 z0 z1 z2 (by omega) (by omega) J Sm D)
set_option maxRecDepth 100000 in
set_option maxHeartbeats 4000000 in
theorem ct_X0_weigh_r98d_74 {Dy : jH → Prop} {h0 : jH} {Q : Option Value → jH → Prop} {dr : (Int × jW)} {K18 : Int → Int → Int → Int → jW → (Int × jW)} {K34 : Int → Int → Int → Int → Int → jW → (Int × jW)} {R18 : Int} {R34 : Int} (hD : jDk Dy) (hQ : ∀ (v : Int32) hx9, 0 ≤ v.toInt ∧ v.toInt ≤ 1 → jJ jSgX Dy hx9 → jSm fp_X0_weigh_r98d h0 hx9 → dr.1 = v.toInt → dr.2 = vw hx9 → Q (some (.int v)) hx9) (k18 : ∀ (l1 : Int32) (l2 : Int32) (l3 : Int32) (l4 : Int32) (g0 : Int32) (g1 : Int32) (h : jH), l4.toInt - (-1) < R18 → 1 ≤ l1.toInt ∧ l1.toInt ≤ 7 → 0 ≤ l2.toInt ∧ l2.toInt ≤ 2 → (-1) ≤ l3.toInt ∧ l3.toInt ≤ 599 → (-1) ≤ l4.toInt ∧ l4.toInt ≤ 1 → (-1) ≤ g0.toInt ∧ g0.toInt ≤ 359 → jiv h 98 13 = g0 → jiv h 98 15 = g1 → jJ jSgX Dy h → jSm fp_X0_weigh_r98d h0 h → K18 l1.toInt l2.toInt l3.toInt l4.toInt (vw h) = dr → jX m_X0_weigh 6 0 0 18 [(0, .ref 98), (1, .int l1), (2, .int l2), (3, .int l3), (4, .int l4)] [] h 0 0 Q) (k34 : ∀ (l1 : Int32) (l2 : Int32) (l3 : Int32) (l4 : Int32) (l5 : Int32) (g0 : Int32) (g1 : Int32) (g2 : Int32) (h : jH), l5.toInt - (-1) < R34 → 1 ≤ l1.toInt ∧ l1.toInt ≤ 7 → 0 ≤ l2.toInt ∧ l2.toInt ≤ 2 → (-1) ≤ l3.toInt ∧ l3.toInt ≤ 599 → 0 ≤ l4.toInt ∧ l4.toInt ≤ 1 → (-1) ≤ l5.toInt ∧ l5.toInt ≤ 29 → 0 ≤ g0.toInt ∧ g0.toInt ≤ 30 → (-1) ≤ g1.toInt ∧ g1.toInt ≤ 359 → jiv h 32 18 = g0 → jiv h 98 13 = g1 → jiv h 98 15 = g2 → l4.toInt - (-1) ≤ R18 → jJ jSgX Dy h → jSm fp_X0_weigh_r98d h0 h → K34 l1.toInt l2.toInt l3.toInt l4.toInt l5.toInt (vw h) = dr → jX m_X0_weigh 6 0 0 34 [(0, .ref 98), (1, .int l1), (2, .int l2), (3, .int l3), (4, .int l4), (5, .int l5)] [] h 0 0 Q) : ∀ r : Nat, ∀ (l1 : Int32) (l2 : Int32) (l3 : Int32) (l4 : Int32) (l5 : Int32) (l6 : Nat) (l7 : Int32) (g0 : Int32) (g1 : Int32) (g2 : Int32) (h : jH), l7.toInt - (-1) < (r : Int) → 1 ≤ l1.toInt ∧ l1.toInt ≤ 7 → 0 ≤ l2.toInt ∧ l2.toInt ≤ 2 → (-1) ≤ l3.toInt ∧ l3.toInt ≤ 599 → 0 ≤ l4.toInt ∧ l4.toInt ≤ 1 → 0 ≤ l5.toInt ∧ l5.toInt ≤ 29 → (-1) ≤ l7.toInt ∧ l7.toInt ≤ 11 → 1 ≤ g0.toInt ∧ g0.toInt ≤ 30 → (-1) ≤ g1.toInt ∧ g1.toInt ≤ 359 → jTx h l6 → jiv h 32 18 = g0 → jiv h 98 13 = g1 → jiv h 98 15 = g2 → l4.toInt - (-1) ≤ R18 → l5.toInt - (-1) ≤ R34 → jJ jSgX Dy h → jSm fp_X0_weigh_r98d h0 h → d_X0_weigh_r98d_74 K18 K34 r l1.toInt l2.toInt l3.toInt l4.toInt l5.toInt l6 l7.toInt (vw h) = dr → jX m_X0_weigh 6 0 0 74 [(0, .ref 98), (1, .int l1), (2, .int l2), (3, .int l3), (4, .int l4), (5, .int l5), (6, .ref l6), (7, .int l7)] [] h 0 0 Q := by
  intro r
  induction r with
  | zero =>
    intro l1 l2 l3 l4 l5 l6 l7 g0 g1 g2 h hm y0 y1 y2 y3 y4 y5 y6 y7 Tl6 z0 z1 z2 m18 m34 J Sm D
    exfalso
    have eg2 := jfull g2
    omega
  | succ r ih =>
    intro l1 l2 l3 l4 l5 l6 l7 g0 g1 g2 h hm y0 y1 y2 y3 y4 y5 y6 y7 Tl6 z0 z1 z2 m18 m34 J Sm D
    have eg2 := jfull g2
    rw [d_X0_weigh_r98d_74.eq_2] at D
    try rw [vrf z0] at D
    try rw [vrf z1] at D
    try rw [vrf z2] at D
    refine x_iload (x := l7) rfl rfl ?_
    refine x_iflt (tgt := 117) rfl rfl (ti_lt rfl jk_0 ⟨fun c1 => ?_, fun c1 => ?_⟩)
    ·
      rw [if_pos (by omega)] at D
      exact jX.sub (jsb_c rfl (jsb_c rfl (jsb_c rfl (jsb_c rfl (jsb_c rfl (jsb_c rfl jsb_n)))))) (ct_X0_weigh_r98d_117 hD hQ k18 k34 l1 l2 l3 l4 l5 g0 g1 g2 h (jr_of rfl (by omega)) (jr_of rfl (by omega)) (jr_of rfl (by omega)) (jr_of rfl (by omega)) (jr_of rfl (by omega)) (jr_of rfl (by omega)) (jr_of rfl (by omega)) z0 z1 z2 (by omega) (by omega) J Sm D)
    ·
      rw [if_neg (by omega)] at D
      refine x_aload (x := l6) rfl rfl ?_
      refine x_iload (x := l7) rfl rfl ?_
      refine x_iloadn (x := l1) rfl rfl ?_
      refine x_iloadn (x := l2) rfl rfl ?_
      refine x_inv (N := m_X10_isOf) (As := [.int l7, .int l1, .int l2]) (b := l6) (st := []) (dx9 := 5) (mc := 0) (ms := 0) (host := "") 10 rfl t_X10_isOf ⟨Or.inl q_0_220, i_X10_isOf.1, i_X10_isOf.2⟩ ⟨by decide, rfl⟩ (congrArg Prod.fst Tl6.1.2.2) rfl (by decide) rfl rfl ⟨by decide, by decide⟩ (jC.of rfl k_X10_isOf rfl ?_)
      show jX m_X10_isOf 5 0 0 0 [(0, .ref l6), (1, .int l7), (2, .int l1), (3, .int l2)] [] _ 0 0 _
      refine x_aloadn (x := l6) rfl rfl ?_
      refine x_iloadn (x := l7) rfl rfl ?_
      refine x_iconst (v := 0) rfl ki_0 ?_
      refine x_inv (N := m_X10_head) (As := [.int l7, .int 0]) (b := l6) (st := []) (dx9 := 1) (mc := 0) (ms := 0) (host := "") 10 rfl t_X10_head ⟨Or.inl q_10_37, i_X10_head.1, i_X10_head.2⟩ ⟨by decide, rfl⟩ (congrArg Prod.fst Tl6.1.2.2) rfl (by decide) rfl rfl ⟨by decide, by decide⟩ (c_headD Tl6 rfl jk_0 (fun v2 ev2 => ?_))
      have fv2 := jfull v2
      try rw [← ev2] at D
      show jX m_X10_isOf 5 0 0 6 [(0, .ref l6), (1, .int l7), (2, .int l1), (3, .int l2)] [.int v2] _ 0 0 _
      refine x_iloadn (x := l1) rfl rfl ?_
      refine x_icne (tgt := 24) rfl rfl (ti_ne rfl rfl ⟨fun c3 => ?_, fun c3 => ?_⟩)
      ·
        rw [if_neg (by omega)] at D
        refine x_iconst (v := 0) rfl ki_0 ?_
        refine x_zret rfl rfl (by decide) ?_
        show jX m_X0_weigh 6 0 0 88 [(0, .ref 98), (1, .int l1), (2, .int l2), (3, .int l3), (4, .int l4), (5, .int l5), (6, .ref l6), (7, .int l7)] [.int 0] _ 0 0 _
        refine x_ifeq (tgt := 111) rfl rfl (ti_eq jk_0 jk_0 (br_t (by omega) ?_))
        exact jX.sub (jsb_c rfl (jsb_c rfl (jsb_c rfl (jsb_c rfl (jsb_c rfl (jsb_c rfl (jsb_c rfl (jsb_c rfl jsb_n)))))))) (ct_X0_weigh_r98d_111 hD hQ k18 k34 ih l1 l2 l3 l4 l5 l6 l7 g0 g1 g2 h (jr_of rfl (by omega)) (jr_of rfl (by omega)) (jr_of rfl (by omega)) (jr_of rfl (by omega)) (jr_of rfl (by omega)) (jr_of rfl (by omega)) (jr_of rfl (by omega)) (jr_of rfl (by omega)) Tl6 z0 z1 z2 (by omega) (by omega) (by omega) J Sm D)
      ·
        rw [if_pos (by omega)] at D
        refine x_aloadn (x := l6) rfl rfl ?_
        refine x_iloadn (x := l7) rfl rfl ?_
        refine x_iconst (v := 1) rfl ki_1 ?_
        refine x_inv (N := m_X10_head) (As := [.int l7, .int 1]) (b := l6) (st := []) (dx9 := 1) (mc := 0) (ms := 0) (host := "") 10 rfl t_X10_head ⟨Or.inl q_10_37, i_X10_head.1, i_X10_head.2⟩ ⟨by decide, rfl⟩ (congrArg Prod.fst Tl6.1.2.2) rfl (by decide) rfl rfl ⟨by decide, by decide⟩ (c_headD Tl6 rfl jk_1 (fun v4 ev4 => ?_))
        have fv4 := jfull v4
        try rw [← ev4] at D
        show jX m_X10_isOf 5 0 0 16 [(0, .ref l6), (1, .int l7), (2, .int l1), (3, .int l2)] [.int v4] _ 0 0 _
        refine x_iloadn (x := l2) rfl rfl ?_
        refine x_icne (tgt := 24) rfl rfl (ti_ne rfl rfl ⟨fun c5 => ?_, fun c5 => ?_⟩)
        ·
          rw [if_neg (by omega)] at D
          refine x_iconst (v := 0) rfl ki_0 ?_
          refine x_zret rfl rfl (by decide) ?_
          show jX m_X0_weigh 6 0 0 88 [(0, .ref 98), (1, .int l1), (2, .int l2), (3, .int l3), (4, .int l4), (5, .int l5), (6, .ref l6), (7, .int l7)] [.int 0] _ 0 0 _
          refine x_ifeq (tgt := 111) rfl rfl (ti_eq jk_0 jk_0 (br_t (by omega) ?_))
          exact jX.sub (jsb_c rfl (jsb_c rfl (jsb_c rfl (jsb_c rfl (jsb_c rfl (jsb_c rfl (jsb_c rfl (jsb_c rfl jsb_n)))))))) (ct_X0_weigh_r98d_111 hD hQ k18 k34 ih l1 l2 l3 l4 l5 l6 l7 g0 g1 g2 h (jr_of rfl (by omega)) (jr_of rfl (by omega)) (jr_of rfl (by omega)) (jr_of rfl (by omega)) (jr_of rfl (by omega)) (jr_of rfl (by omega)) (jr_of rfl (by omega)) (jr_of rfl (by omega)) Tl6 z0 z1 z2 (by omega) (by omega) (by omega) J Sm D)
        ·
          rw [if_pos (by omega)] at D
          refine x_iconst (v := 1) rfl ki_1 ?_
          refine x_goto (tgt := 25) rfl rfl ?_
          refine x_zret rfl rfl (by decide) ?_
          show jX m_X0_weigh 6 0 0 88 [(0, .ref 98), (1, .int l1), (2, .int l2), (3, .int l3), (4, .int l4), (5, .int l5), (6, .ref l6), (7, .int l7)] [.int 1] _ 0 0 _
          refine x_ifeq (tgt := 111) rfl rfl (ti_eq jk_1 jk_0 (br_f (by omega) ?_))
          refine x_aloadn (x := 98) rfl rfl ?_
          refine x_iload (x := l5) rfl rfl ?_
          refine x_iload (x := l7) rfl rfl ?_
          refine x_iloadn (x := l3) rfl rfl ?_
          refine x_inv (N := m_X0_holdsFor) (As := [.int l5, .int l7, .int l3]) (b := 98) (st := []) (dx9 := 5) (mc := 0) (ms := 0) (host := "") 0 rfl t_X0_holdsFor ⟨Or.inl q_0_223, i_X0_holdsFor.1, i_X0_holdsFor.2⟩ ⟨by decide, rfl⟩ (congrArg Prod.fst (J.1.1 98 (0, 16) rfl)) rfl (by decide) rfl rfl ⟨by decide, by decide⟩ (sf_X0_holdsFor_r98d (jr_of rfl (by omega)) (jr_of rfl (by omega)) (jr_of rfl (by omega)) hD J rfl  (fun v9 h ev9 J S6 X7 X8 => ?_))
          have Sm := jSm_tr rfl Sm S6
          have Tl6 := jTx_m S6 rfl Tl6
          try rw [X7] at D
          try rw [X8] at D
          show jX m_X0_weigh 6 0 0 100 [(0, .ref 98), (1, .int l1), (2, .int l2), (3, .int l3), (4, .int l4), (5, .int l5), (6, .ref l6), (7, .int l7)] [.int v9] _ 0 0 _
          refine x_ifeq (tgt := 111) rfl rfl (ti_eq rfl jk_0 ⟨fun c10 => ?_, fun c10 => ?_⟩)
          ·
            rw [if_pos (by omega)] at D
            exact jX.sub (jsb_c rfl (jsb_c rfl (jsb_c rfl (jsb_c rfl (jsb_c rfl (jsb_c rfl (jsb_c rfl (jsb_c rfl jsb_n)))))))) (ct_X0_weigh_r98d_111 hD hQ k18 k34 ih l1 l2 l3 l4 l5 l6 l7 g0 g1 g2 h (jr_of rfl (by omega)) (jr_of rfl (by omega)) (jr_of rfl (by omega)) (jr_of rfl (by omega)) (jr_of rfl (by omega)) (jr_of rfl (by omega)) (jr_of rfl (by omega)) (jr_of rfl (by omega)) Tl6 (jmc S6 rfl z0) (jmc S6 rfl z1) (jmc S6 rfl z2) (by omega) (by omega) (by omega) J Sm D)
          ·
            rw [if_neg (by omega)] at D
            refine x_aloadn (x := 98) rfl rfl ?_
            refine x_iload (x := l5) rfl rfl ?_
            refine x_iload (x := l7) rfl rfl ?_
            refine x_inv (N := m_X0_noteHolding) (As := [.int l5, .int l7]) (b := 98) (st := []) (dx9 := 5) (mc := 0) (ms := 0) (host := "") 0 rfl t_X0_noteHolding ⟨Or.inl q_0_226, i_X0_noteHolding.1, i_X0_noteHolding.2⟩ ⟨by decide, rfl⟩ (congrArg Prod.fst (J.1.1 98 (0, 16) rfl)) rfl (by decide) rfl rfl ⟨by decide, by decide⟩ (jC.of rfl k_X0_noteHolding rfl ?_)
            show jX m_X0_noteHolding 5 0 0 0 [(0, .ref 98), (1, .int l5), (2, .int l7)] [] _ 0 0 _
            refine x_aloadn (x := 98) rfl rfl ?_
            refine z_getM (N := 16) (v := g1) 0 13 rfl f_0_48 rfl J rfl (jmc S6 rfl z1) ?_
            refine x_iconst (v := (-1)) rfl ki_m1 ?_
            refine x_icne (tgt := 29) rfl rfl (ti_ne rfl jk_m1 ⟨fun c11 => ?_, fun c11 => ?_⟩)
            ·
              rw [if_neg (by omega)] at D
              refine x_aloadn (x := 98) rfl rfl ?_
              refine z_getLQ (N := 16) 0 12 rfl f_0_44 rfl J rfl (fun v12 qv12 => ?_)
              have ev12 := jfullL v12
              try rw [vrfL qv12] at D
              refine x_aloadn (x := 98) rfl rfl ?_
              refine z_getLQ (N := 16) 0 14 rfl f_0_51 rfl J rfl (fun v13 qv13 => ?_)
              have ev13 := jfullL v13
              try rw [vrfL qv13] at D
              refine z_lcmp rfl rfl rfl (fun v14 ev14 => ?_)
              refine x_ifeq (tgt := 51) rfl rfl (ti_eq rfl jk_0 ⟨fun c15 => ?_, fun c15 => ?_⟩)
              ·
                rw [if_pos (by omega)] at D
                refine x_vret rfl rfl ?_
                show jX m_X0_weigh 6 0 0 111 [(0, .ref 98), (1, .int l1), (2, .int l2), (3, .int l3), (4, .int l4), (5, .int l5), (6, .ref l6), (7, .int l7)] [] _ 0 0 _
                exact jX.sub (jsb_c rfl (jsb_c rfl (jsb_c rfl (jsb_c rfl (jsb_c rfl (jsb_c rfl (jsb_c rfl (jsb_c rfl jsb_n)))))))) (ct_X0_weigh_r98d_111 hD hQ k18 k34 ih l1 l2 l3 l4 l5 l6 l7 g0 g1 g2 h (jr_of rfl (by omega)) (jr_of rfl (by omega)) (jr_of rfl (by omega)) (jr_of rfl (by omega)) (jr_of rfl (by omega)) (jr_of rfl (by omega)) (jr_of rfl (by omega)) (jr_of rfl (by omega)) Tl6 (jmc S6 rfl z0) (jmc S6 rfl z1) (jmc S6 rfl z2) (by omega) (by omega) (by omega) J Sm D)
              ·
                rw [if_neg (by omega)] at D
                refine x_aloadn (x := 98) rfl rfl ?_
                refine x_dup rfl rfl ?_
                refine z_getM (N := 16) (v := g2) 0 15 rfl f_0_54 rfl J rfl (jmc S6 rfl z2) ?_
                refine x_iconst (v := 1) rfl ki_1 ?_
                refine z_iaddW rfl rfl jk_1 (fun v16 ev16 => ?_)
                have fv16 := jfull v16
                try rw [← ev16] at D
                refine z_putI (N := 16) (w := v16.toInt) 0 15 rfl f_0_54 rfl (jfin_no TX0 RX0 16 rfl rfl) hD J Sm rfl rfl rfl (pw_98_15 trivial) rfl (fun h w17 J Sm => ?_)
                have Tl6 := jTx_i w17 rfl Tl6
                rw [vwf w17 (show v16.toInt = v16.toInt from by omega)] at D
                refine x_vret rfl rfl ?_
                show jX m_X0_weigh 6 0 0 111 [(0, .ref 98), (1, .int l1), (2, .int l2), (3, .int l3), (4, .int l4), (5, .int l5), (6, .ref l6), (7, .int l7)] [] _ 0 0 _
                exact jX.sub (jsb_c rfl (jsb_c rfl (jsb_c rfl (jsb_c rfl (jsb_c rfl (jsb_c rfl (jsb_c rfl (jsb_c rfl jsb_n)))))))) (ct_X0_weigh_r98d_111 hD hQ k18 k34 ih l1 l2 l3 l4 l5 l6 l7 g0 g1 v16 h (jr_of rfl (by omega)) (jr_of rfl (by omega)) (jr_of rfl (by omega)) (jr_of rfl (by omega)) (jr_of rfl (by omega)) (jr_of rfl (by omega)) (jr_of rfl (by omega)) (jr_of rfl (by omega)) Tl6 (jmo w17 rfl (jmc S6 rfl z0)) (jmo w17 rfl (jmc S6 rfl z1)) (jmw w17) (by omega) (by omega) (by omega) J Sm D)
            ·
              rw [if_pos (by omega)] at D
              refine x_aloadn (x := 98) rfl rfl ?_
              refine x_iloadn (x := l5) rfl rfl ?_
              refine x_bipush (v := 12) rfl kb_12 ?_
              refine z_imul rfl rfl jk_12 (by omega) (fun v18 ev18 => ?_)
              refine x_iloadn (x := l7) rfl rfl ?_
              refine z_iadd rfl rfl rfl (by omega) (fun v19 ev19 => ?_)
              refine z_putI (N := 16) (w := v19.toInt) 0 13 rfl f_0_48 rfl (jfin_no TX0 RX0 16 rfl rfl) hD J Sm rfl rfl rfl (pw_98_13 (by omega)) rfl (fun h w20 J Sm => ?_)
              have Tl6 := jTx_i w20 rfl Tl6
              rw [vwf w20 (show ((l5.toInt * 12) + l7.toInt) = v19.toInt from by omega)] at D
              refine x_aloadn (x := 98) rfl rfl ?_
              refine x_aloadn (x := 98) rfl rfl ?_
              refine z_getLQ (N := 16) 0 12 rfl f_0_44 rfl J rfl (fun v21 qv21 => ?_)
              have ev21 := jfullL v21
              try rw [vrfL qv21] at D
              refine z_putL (N := 16) 0 14 rfl f_0_51 rfl (jfin_no TX0 RX0 16 rfl rfl) hD J Sm rfl rfl rfl (fun h w22 J Sm => ?_)
              have Tl6 := jTx_l w22 rfl Tl6
              rw [vwfL w22 (show v21.toInt = v21.toInt from by omega)] at D
              refine x_goto (tgt := 51) rfl rfl ?_
              refine x_vret rfl rfl ?_
              show jX m_X0_weigh 6 0 0 111 [(0, .ref 98), (1, .int l1), (2, .int l2), (3, .int l3), (4, .int l4), (5, .int l5), (6, .ref l6), (7, .int l7)] [] _ 0 0 _
              exact jX.sub (jsb_c rfl (jsb_c rfl (jsb_c rfl (jsb_c rfl (jsb_c rfl (jsb_c rfl (jsb_c rfl (jsb_c rfl jsb_n)))))))) (ct_X0_weigh_r98d_111 hD hQ k18 k34 ih l1 l2 l3 l4 l5 l6 l7 g0 v19 g2 h (jr_of rfl (by omega)) (jr_of rfl (by omega)) (jr_of rfl (by omega)) (jr_of rfl (by omega)) (jr_of rfl (by omega)) (jr_of rfl (by omega)) (jr_of rfl (by omega)) (jr_of rfl (by omega)) Tl6 (jml w22 (jmo w20 rfl (jmc S6 rfl z0))) (jml w22 (jmw w20)) (jml w22 (jmo w20 rfl (jmc S6 rfl z2))) (by omega) (by omega) (by omega) J Sm D)
set_option maxRecDepth 100000 in
set_option maxHeartbeats 4000000 in
theorem ct_X0_weigh_r98d_34 {Dy : jH → Prop} {h0 : jH} {Q : Option Value → jH → Prop} {dr : (Int × jW)} {K18 : Int → Int → Int → Int → jW → (Int × jW)} {R18 : Int} (hD : jDk Dy) (hQ : ∀ (v : Int32) hx9, 0 ≤ v.toInt ∧ v.toInt ≤ 1 → jJ jSgX Dy hx9 → jSm fp_X0_weigh_r98d h0 hx9 → dr.1 = v.toInt → dr.2 = vw hx9 → Q (some (.int v)) hx9) (k18 : ∀ (l1 : Int32) (l2 : Int32) (l3 : Int32) (l4 : Int32) (g0 : Int32) (g1 : Int32) (h : jH), l4.toInt - (-1) < R18 → 1 ≤ l1.toInt ∧ l1.toInt ≤ 7 → 0 ≤ l2.toInt ∧ l2.toInt ≤ 2 → (-1) ≤ l3.toInt ∧ l3.toInt ≤ 599 → (-1) ≤ l4.toInt ∧ l4.toInt ≤ 1 → (-1) ≤ g0.toInt ∧ g0.toInt ≤ 359 → jiv h 98 13 = g0 → jiv h 98 15 = g1 → jJ jSgX Dy h → jSm fp_X0_weigh_r98d h0 h → K18 l1.toInt l2.toInt l3.toInt l4.toInt (vw h) = dr → jX m_X0_weigh 6 0 0 18 [(0, .ref 98), (1, .int l1), (2, .int l2), (3, .int l3), (4, .int l4)] [] h 0 0 Q) : ∀ r : Nat, ∀ (l1 : Int32) (l2 : Int32) (l3 : Int32) (l4 : Int32) (l5 : Int32) (g0 : Int32) (g1 : Int32) (g2 : Int32) (h : jH), l5.toInt - (-1) < (r : Int) → 1 ≤ l1.toInt ∧ l1.toInt ≤ 7 → 0 ≤ l2.toInt ∧ l2.toInt ≤ 2 → (-1) ≤ l3.toInt ∧ l3.toInt ≤ 599 → 0 ≤ l4.toInt ∧ l4.toInt ≤ 1 → (-1) ≤ l5.toInt ∧ l5.toInt ≤ 29 → 0 ≤ g0.toInt ∧ g0.toInt ≤ 30 → (-1) ≤ g1.toInt ∧ g1.toInt ≤ 359 → jiv h 32 18 = g0 → jiv h 98 13 = g1 → jiv h 98 15 = g2 → l4.toInt - (-1) ≤ R18 → jJ jSgX Dy h → jSm fp_X0_weigh_r98d h0 h → d_X0_weigh_r98d_34 K18 r l1.toInt l2.toInt l3.toInt l4.toInt l5.toInt (vw h) = dr → jX m_X0_weigh 6 0 0 34 [(0, .ref 98), (1, .int l1), (2, .int l2), (3, .int l3), (4, .int l4), (5, .int l5)] [] h 0 0 Q := by
  intro r
  induction r with
  | zero =>
    intro l1 l2 l3 l4 l5 g0 g1 g2 h hm y0 y1 y2 y3 y4 y5 y6 z0 z1 z2 m18 J Sm D
    exfalso
    have eg2 := jfull g2
    omega
  | succ r ih =>
    intro l1 l2 l3 l4 l5 g0 g1 g2 h hm y0 y1 y2 y3 y4 y5 y6 z0 z1 z2 m18 J Sm D
    have eg2 := jfull g2
    rw [d_X0_weigh_r98d_34.eq_2] at D
    try rw [vrf z0] at D
    try rw [vrf z1] at D
    try rw [vrf z2] at D
    refine x_iload (x := l5) rfl rfl ?_
    refine x_iflt (tgt := 123) rfl rfl (ti_lt rfl jk_0 ⟨fun c1 => ?_, fun c1 => ?_⟩)
    ·
      rw [if_pos (by omega)] at D
      refine z_iinc (x := l4) (lsx9 := fun v2 => [(4, .int v2), (0, .ref 98), (1, .int l1), (2, .int l2), (3, .int l3), (5, .int l5)]) rfl rfl rfl jko_m1 (by omega) rfl (fun _ => rfl) (fun v2 ev2 => ?_)
      refine x_goto (tgt := 18) rfl rfl ?_
      try rw [show (l4.toInt + (-1)) = v2.toInt from by omega] at D
      exact jX.sub (jsb_c rfl (jsb_c rfl (jsb_c rfl (jsb_c rfl (jsb_c rfl jsb_n))))) (k18 l1 l2 l3 v2 g1 g2 h (by omega) (jr_of rfl (by omega)) (jr_of rfl (by omega)) (jr_of rfl (by omega)) (jr_of rfl (by omega)) (jr_of rfl (by omega)) z1 z2 J Sm D)
    ·
      rw [if_neg (by omega)] at D
      refine x_aloadn (x := 98) rfl rfl ?_
      refine x_iload (x := l5) rfl rfl ?_
      refine x_inv (N := m_X0_textAt) (As := [.int l5]) (b := 98) (st := []) (dx9 := 5) (mc := 0) (ms := 0) (host := "") 0 rfl t_X0_textAt ⟨Or.inl q_0_94, i_X0_textAt.1, i_X0_textAt.2⟩ ⟨by decide, rfl⟩ (congrArg Prod.fst (J.1.1 98 (0, 16) rfl)) rfl (by decide) rfl rfl ⟨by decide, by decide⟩ (jC.of rfl k_X0_textAt rfl ?_)
      show jX m_X0_textAt 5 0 0 0 [(0, .ref 98), (1, .int l5)] [] _ 0 0 _
      refine x_iloadn (x := l5) rfl rfl ?_
      refine x_iflt (tgt := 33) rfl rfl (ti_lt rfl jk_0 (br_f (by omega) ?_))
      refine x_iloadn (x := l5) rfl rfl ?_
      refine x_aloadn (x := 98) rfl rfl ?_
      refine z_getR (N := 16) (b := 32) 0 0 rfl f_0_57 rfl J rfl 12544 ⟨rfl, rfl⟩ rfl ?_
      refine z_getM (N := 20) (v := g0) 1 18 rfl f_0_72 rfl J rfl z0 ?_
      refine x_icge (tgt := 33) rfl rfl (ti_ge rfl rfl ⟨fun c3 => ?_, fun c3 => ?_⟩)
      ·
        rw [if_pos (by omega)] at D
        refine x_null rfl ?_
        refine x_aret rfl rfl rfl (Or.inl rfl) ?_
        show jX m_X0_weigh 6 0 0 45 [(0, .ref 98), (1, .int l1), (2, .int l2), (3, .int l3), (4, .int l4), (5, .int l5)] [.null] _ 0 0 _
        refine x_astoreN (lsx9 := [(6, .null), (0, .ref 98), (1, .int l1), (2, .int l2), (3, .int l3), (4, .int l4), (5, .int l5)]) rfl rfl rfl ?_
        refine x_aloadN rfl rfl ?_
        refine x_ifnullN (tgt := 117) rfl rfl ?_
        exact jX.sub (jsb_c rfl (jsb_c rfl (jsb_c rfl (jsb_c rfl (jsb_c rfl (jsb_c rfl jsb_n)))))) (ct_X0_weigh_r98d_117 hD hQ k18 ih l1 l2 l3 l4 l5 g0 g1 g2 h (jr_of rfl (by omega)) (jr_of rfl (by omega)) (jr_of rfl (by omega)) (jr_of rfl (by omega)) (jr_of rfl (by omega)) (jr_of rfl (by omega)) (jr_of rfl (by omega)) z0 z1 z2 (by omega) (by omega) J Sm D)
      ·
        rw [if_neg (by omega)] at D
        refine x_iloadn (x := l5) rfl rfl ?_
        refine x_bipush (v := 30) rfl kb_30 ?_
        refine x_icge (tgt := 33) rfl rfl (ti_ge rfl jk_30 (br_f (by omega) ?_))
        refine x_aloadn (x := 98) rfl rfl ?_
        refine z_getR (N := 16) (b := 32) 0 0 rfl f_0_57 rfl J rfl 12544 ⟨rfl, rfl⟩ rfl ?_
        refine z_getR (N := 20) (b := 66) 1 17 rfl f_0_77 rfl J rfl 4113 ⟨rfl, rfl⟩ rfl ?_
        refine x_iloadn (x := l5) rfl rfl ?_
        refine z_aaldTD rfl hD J rfl rfl (by omega) ⟨fun qb4 => ?_, fun b4 qb4 Tb4 => ?_⟩
        ·
          rw [if_pos (vnn qb4 (show l5.toInt = l5.toInt from by omega))] at D
          refine x_goto (tgt := 34) rfl rfl ?_
          refine x_aret rfl rfl rfl (Or.inl rfl) ?_
          show jX m_X0_weigh 6 0 0 45 [(0, .ref 98), (1, .int l1), (2, .int l2), (3, .int l3), (4, .int l4), (5, .int l5)] [.null] _ 0 0 _
          refine x_astoreN (lsx9 := [(6, .null), (0, .ref 98), (1, .int l1), (2, .int l2), (3, .int l3), (4, .int l4), (5, .int l5)]) rfl rfl rfl ?_
          refine x_aloadN rfl rfl ?_
          refine x_ifnullN (tgt := 117) rfl rfl ?_
          exact jX.sub (jsb_c rfl (jsb_c rfl (jsb_c rfl (jsb_c rfl (jsb_c rfl (jsb_c rfl jsb_n)))))) (ct_X0_weigh_r98d_117 hD hQ k18 ih l1 l2 l3 l4 l5 g0 g1 g2 h (jr_of rfl (by omega)) (jr_of rfl (by omega)) (jr_of rfl (by omega)) (jr_of rfl (by omega)) (jr_of rfl (by omega)) (jr_of rfl (by omega)) (jr_of rfl (by omega)) z0 z1 z2 (by omega) (by omega) J Sm D)
        ·
          rw [if_neg (vns qb4 (show l5.toInt = l5.toInt from by omega))] at D
          try rw [vrs qb4 (show l5.toInt = l5.toInt from by omega)] at D
          refine x_goto (tgt := 34) rfl rfl ?_
          refine x_aret rfl rfl rfl (Or.inr ⟨_, rfl⟩) ?_
          show jX m_X0_weigh 6 0 0 45 [(0, .ref 98), (1, .int l1), (2, .int l2), (3, .int l3), (4, .int l4), (5, .int l5)] [.ref b4] _ 0 0 _
          refine x_astore (lsx9 := [(6, .ref b4), (0, .ref 98), (1, .int l1), (2, .int l2), (3, .int l3), (4, .int l4), (5, .int l5)]) rfl rfl rfl ?_
          refine x_aload (x := b4) rfl rfl ?_
          refine x_ifnull rfl ?_
          refine x_aload (x := b4) rfl rfl ?_
          refine z_getTD 0 rfl f_0_217 rfl Tb4 (fun v5 qv5 => ?_)
          have ev5 := jfull v5
          try rw [vrf qv5] at D
          refine x_iload (x := l4) rfl rfl ?_
          refine x_iceq (tgt := 65) rfl rfl (ti_eq rfl rfl ⟨fun c6 => ?_, fun c6 => ?_⟩)
          ·
            rw [if_pos (by omega)] at D
            refine x_aload (x := b4) rfl rfl ?_
            refine z_getTcD rfl f_0_104 Tb4 (fun v7 qv7 ev7 => ?_)
            try rw [vrf qv7] at D
            refine x_iconst (v := 1) rfl ki_1 ?_
            refine z_isub rfl rfl jk_1 (by omega) (fun v8 ev8 => ?_)
            refine x_istore (lsx9 := [(7, .int v8), (6, .ref b4), (0, .ref 98), (1, .int l1), (2, .int l2), (3, .int l3), (4, .int l4), (5, .int l5)]) rfl rfl rfl ?_
            try rw [show (v7.toInt - 1) = v8.toInt from by omega] at D
            exact jX.sub (jsb_c rfl (jsb_c rfl (jsb_c rfl (jsb_c rfl (jsb_c rfl (jsb_c rfl (jsb_c rfl (jsb_c rfl jsb_n)))))))) (ct_X0_weigh_r98d_74 hD hQ k18 ih 13 l1 l2 l3 l4 l5 b4 v8 g0 g1 g2 h (by omega) (jr_of rfl (by omega)) (jr_of rfl (by omega)) (jr_of rfl (by omega)) (jr_of rfl (by omega)) (jr_of rfl (by omega)) (jr_of rfl (by omega)) (jr_of rfl (by omega)) (jr_of rfl (by omega)) Tb4 z0 z1 z2 (by omega) (by omega) J Sm D)
          ·
            rw [if_neg (by omega)] at D
            refine x_goto (tgt := 117) rfl rfl ?_
            exact jX.sub (jsb_c rfl (jsb_c rfl (jsb_c rfl (jsb_c rfl (jsb_c rfl (jsb_c rfl jsb_n)))))) (ct_X0_weigh_r98d_117 hD hQ k18 ih l1 l2 l3 l4 l5 g0 g1 g2 h (jr_of rfl (by omega)) (jr_of rfl (by omega)) (jr_of rfl (by omega)) (jr_of rfl (by omega)) (jr_of rfl (by omega)) (jr_of rfl (by omega)) (jr_of rfl (by omega)) z0 z1 z2 (by omega) (by omega) J Sm D)
set_option maxRecDepth 100000 in
set_option maxHeartbeats 4000000 in
theorem ct_X0_weigh_r98d_18 {Dy : jH → Prop} {h0 : jH} {Q : Option Value → jH → Prop} {dr : (Int × jW)} (hD : jDk Dy) (hQ : ∀ (v : Int32) hx9, 0 ≤ v.toInt ∧ v.toInt ≤ 1 → jJ jSgX Dy hx9 → jSm fp_X0_weigh_r98d h0 hx9 → dr.1 = v.toInt → dr.2 = vw hx9 → Q (some (.int v)) hx9) : ∀ r : Nat, ∀ (l1 : Int32) (l2 : Int32) (l3 : Int32) (l4 : Int32) (g0 : Int32) (g1 : Int32) (h : jH), l4.toInt - (-1) < (r : Int) → 1 ≤ l1.toInt ∧ l1.toInt ≤ 7 → 0 ≤ l2.toInt ∧ l2.toInt ≤ 2 → (-1) ≤ l3.toInt ∧ l3.toInt ≤ 599 → (-1) ≤ l4.toInt ∧ l4.toInt ≤ 1 → (-1) ≤ g0.toInt ∧ g0.toInt ≤ 359 → jiv h 98 13 = g0 → jiv h 98 15 = g1 → jJ jSgX Dy h → jSm fp_X0_weigh_r98d h0 h → d_X0_weigh_r98d_18 r l1.toInt l2.toInt l3.toInt l4.toInt (vw h) = dr → jX m_X0_weigh 6 0 0 18 [(0, .ref 98), (1, .int l1), (2, .int l2), (3, .int l3), (4, .int l4)] [] h 0 0 Q := by
  intro r
  induction r with
  | zero =>
    intro l1 l2 l3 l4 g0 g1 h hm y0 y1 y2 y3 y4 z0 z1  J Sm D
    exfalso
    have eg1 := jfull g1
    omega
  | succ r ih =>
    intro l1 l2 l3 l4 g0 g1 h hm y0 y1 y2 y3 y4 z0 z1  J Sm D
    have eg1 := jfull g1
    rw [d_X0_weigh_r98d_18.eq_2] at D
    try rw [vrf z0] at D
    try rw [vrf z1] at D
    refine x_iload (x := l4) rfl rfl ?_
    refine x_iflt (tgt := 129) rfl rfl (ti_lt rfl jk_0 ⟨fun c1 => ?_, fun c1 => ?_⟩)
    ·
      rw [if_pos (by omega)] at D
      refine x_aloadn (x := 98) rfl rfl ?_
      refine z_getM (N := 16) (v := g0) 0 13 rfl f_0_48 rfl J rfl z0 ?_
      refine x_iconst (v := (-1)) rfl ki_m1 ?_
      refine x_iceq (tgt := 141) rfl rfl (ti_eq rfl jk_m1 ⟨fun c2 => ?_, fun c2 => ?_⟩)
      ·
        rw [if_pos (by omega)] at D
        refine x_iconst (v := 0) rfl ki_0 ?_
        exact jX.sub jsb_n (ct_X0_weigh_r98d_200142 hD hQ  h J Sm D)
      ·
        rw [if_neg (by omega)] at D
        refine x_iconst (v := 1) rfl ki_1 ?_
        refine x_goto (tgt := 142) rfl rfl ?_
        exact jX.sub jsb_n (ct_X0_weigh_r98d_300142 hD hQ  h J Sm D)
    ·
      rw [if_neg (by omega)] at D
      refine x_aloadn (x := 98) rfl rfl ?_
      refine z_getR (N := 16) (b := 32) 0 0 rfl f_0_57 rfl J rfl 12544 ⟨rfl, rfl⟩ rfl ?_
      refine z_getI (N := 20) 1 18 rfl f_0_72 rfl J rfl sg_32_18_19_1_0_1 (fun v3 qv3 ev3 => ?_)
      try rw [vrf qv3] at D
      refine x_iconst (v := 1) rfl ki_1 ?_
      refine z_isub rfl rfl jk_1 (by omega) (fun v4 ev4 => ?_)
      refine x_istore (lsx9 := [(5, .int v4), (0, .ref 98), (1, .int l1), (2, .int l2), (3, .int l3), (4, .int l4)]) rfl rfl rfl ?_
      try rw [show (v3.toInt - 1) = v4.toInt from by omega] at D
      exact jX.sub (jsb_c rfl (jsb_c rfl (jsb_c rfl (jsb_c rfl (jsb_c rfl (jsb_c rfl jsb_n)))))) (ct_X0_weigh_r98d_34 hD hQ ih 31 l1 l2 l3 l4 v4 v3 g0 g1 h (by omega) (jr_of rfl (by omega)) (jr_of rfl (by omega)) (jr_of rfl (by omega)) (jr_of rfl (by omega)) (jr_of rfl (by omega)) (jr_of rfl (by omega)) (jr_of rfl (by omega)) qv3 z0 z1 (by omega) J Sm D)
set_option maxRecDepth 100000 in
set_option maxHeartbeats 4000000 in
theorem sf_X0_weigh_r98d {Dy : jH → Prop} {h : jH} {Q : Option Value → jH → Prop} {dr : (Int × jW)} {a1 : Int32} {a2 : Int32} {a3 : Int32} (y1 : 1 ≤ a1.toInt ∧ a1.toInt ≤ 7) (y2 : 0 ≤ a2.toInt ∧ a2.toInt ≤ 2) (y3 : (-1) ≤ a3.toInt ∧ a3.toInt ≤ 599) (hD : jDk Dy) (J : jJ jSgX Dy h) (D : d_X0_weigh_r98d a1.toInt a2.toInt a3.toInt (vw h) = dr) (hQ : ∀ (v : Int32) hx9, 0 ≤ v.toInt ∧ v.toInt ≤ 1 → jJ jSgX Dy hx9 → jSm fp_X0_weigh_r98d h hx9 → dr.1 = v.toInt → dr.2 = vw hx9 → Q (some (.int v)) hx9) : jC m_X0_weigh 6 0 0 [.ref 98, .int a1, .int a2, .int a3] h Q := by
  refine jC.of rfl k_X0_weigh rfl ?_
  have Sm := jSm_rf fp_X0_weigh_r98d h
  show jX m_X0_weigh 6 0 0 0 [(0, .ref 98), (1, .int a1), (2, .int a2), (3, .int a3)] [] _ 0 0 _
  unfold d_X0_weigh_r98d at D
  refine x_aloadn (x := 98) rfl rfl ?_
  refine x_iconst (v := (-1)) rfl ki_m1 ?_
  refine z_putI (N := 16) (w := (-1)) 0 13 rfl f_0_48 rfl (jfin_no TX0 RX0 16 rfl rfl) hD J Sm rfl rfl jk_m1 (pw_98_13 (by omega)) rfl (fun h w1 J Sm => ?_)
  rw [vwf w1 (show (-1) = ((-1) : Int32).toInt from by have := jk_m1; omega)] at D
  refine x_aloadn (x := 98) rfl rfl ?_
  refine x_lconst (v := 0) rfl kl_0 ?_
  refine z_putL (N := 16) 0 14 rfl f_0_51 rfl (jfin_no TX0 RX0 16 rfl rfl) hD J Sm rfl rfl rfl (fun h w2 J Sm => ?_)
  rw [vwfL w2 (show 0 = (0 : Int64).toInt from by have := jkl_0; omega)] at D
  refine x_aloadn (x := 98) rfl rfl ?_
  refine x_iconst (v := 0) rfl ki_0 ?_
  refine z_putI (N := 16) (w := 0) 0 15 rfl f_0_54 rfl (jfin_no TX0 RX0 16 rfl rfl) hD J Sm rfl rfl jk_0 (pw_98_15 trivial) rfl (fun h w3 J Sm => ?_)
  rw [vwf w3 (show 0 = (0 : Int32).toInt from by have := jk_0; omega)] at D
  refine x_iconst (v := 1) rfl ki_1 ?_
  refine x_istore (lsx9 := [(4, .int 1), (0, .ref 98), (1, .int a1), (2, .int a2), (3, .int a3)]) rfl rfl rfl ?_
  exact jX.sub (jsb_c rfl (jsb_c rfl (jsb_c rfl (jsb_c rfl (jsb_c rfl jsb_n))))) (ct_X0_weigh_r98d_18 hD hQ  3 a1 a2 a3 1 (-1) 0 h (by have := jk_1; omega) (jr_of rfl (by omega)) (jr_of rfl (by omega)) (jr_of rfl (by omega)) (jr_of jk_1 (by omega)) (jr_of jk_m1 (by omega)) (jmo w3 rfl (jml w2 (jmw w1))) (jmw w3) J Sm (by rw [jk_1]; exact D))
def fp_X5_differ_r70d : jFp := []
set_option maxRecDepth 100000 in
set_option maxHeartbeats 4000000 in
theorem ct_X5_differ_r70d_70 {Dy : jH → Prop} {h0 : jH} {Q : Option Value → jH → Prop} {dr : Int} (hD : jDk Dy) (hQ : ∀ (v : Int32) hx9, 0 ≤ v.toInt ∧ v.toInt ≤ 1 → jJ jSgX Dy hx9 → jSm fp_X5_differ_r70d h0 hx9 → dr = v.toInt → vw hx9 = vw h0 → Q (some (.int v)) hx9) : ∀ (h : jH), jJ jSgX Dy h → jSm fp_X5_differ_r70d h0 h → d_X5_differ_r70d_70  (vw h) = dr → vw h = vw h0 → jX m_X5_differ 1 0 0 70 [] [] h 0 0 Q := by
  intro  h    J Sm D EV
  unfold d_X5_differ_r70d_70 at D
  refine x_iconst (v := 0) rfl ki_0 ?_
  refine x_zret rfl rfl (by decide) ?_
  exact hQ _ _ (jr_of jk_0 (by omega)) J Sm (D.symm.trans (show 0 = (0 : Int32).toInt from by have := jk_0; omega)) EV
set_option maxRecDepth 100000 in
set_option maxHeartbeats 4000000 in
theorem ct_X5_differ_r70d_120 {Dy : jH → Prop} {h0 : jH} {Q : Option Value → jH → Prop} {dr : Int} (hD : jDk Dy) (hQ : ∀ (v : Int32) hx9, 0 ≤ v.toInt ∧ v.toInt ≤ 1 → jJ jSgX Dy hx9 → jSm fp_X5_differ_r70d h0 hx9 → dr = v.toInt → vw hx9 = vw h0 → Q (some (.int v)) hx9) : ∀ r : Nat, ∀ (l4 : Int32) (l5 : Int32) (l8 : Int32) (l9 : Int32) (h : jH), 36 - l9.toInt < (r : Int) → 0 ≤ l4.toInt ∧ l4.toInt ≤ 1199 → 0 ≤ l5.toInt ∧ l5.toInt ≤ 1199 → 0 ≤ l8.toInt ∧ l8.toInt ≤ 36 → 0 ≤ l9.toInt ∧ l9.toInt ≤ 36 → jJ jSgX Dy h → jSm fp_X5_differ_r70d h0 h → d_X5_differ_r70d_120 r l4.toInt l5.toInt l8.toInt l9.toInt (vw h) = dr → vw h = vw h0 → jX m_X5_differ 1 0 0 120 [(0, .ref 70), (4, .int l4), (5, .int l5), (8, .int l8), (9, .int l9)] [] h 0 0 Q := by
  intro r
  induction r with
  | zero =>
    intro l4 l5 l8 l9 h hm y0 y1 y2 y3   J Sm D EV
    exfalso
    omega
  | succ r ih =>
    intro l4 l5 l8 l9 h hm y0 y1 y2 y3   J Sm D EV
    rw [d_X5_differ_r70d_120.eq_2] at D
    refine x_iload (x := l9) rfl rfl ?_
    refine x_iload (x := l8) rfl rfl ?_
    refine x_icge (tgt := 164) rfl rfl (ti_ge rfl rfl ⟨fun c1 => ?_, fun c1 => ?_⟩)
    ·
      rw [if_pos (by omega)] at D
      refine x_iconst (v := 0) rfl ki_0 ?_
      refine x_zret rfl rfl (by decide) ?_
      exact hQ _ _ (jr_of jk_0 (by omega)) J Sm (D.symm.trans (show 0 = (0 : Int32).toInt from by have := jk_0; omega)) EV
    ·
      rw [if_neg (by omega)] at D
      refine x_aloadn (x := 70) rfl rfl ?_
      refine z_getR (N := 9) (b := 75) 5 6 rfl f_5_25 rfl J rfl 8966 ⟨rfl, rfl⟩ rfl ?_
      refine x_iload (x := l4) rfl rfl ?_
      refine x_bipush (v := 36) rfl kb_36 ?_
      refine z_imul rfl rfl jk_36 (by omega) (fun v2 ev2 => ?_)
      refine x_iload (x := l9) rfl rfl ?_
      refine z_iadd rfl rfl rfl (by omega) (fun v3 ev3 => ?_)
      refine z_iald0 (N := 43200) rfl J rfl rfl (by omega) (fun v4 qv4 => ?_)
      have ev4 := jfull v4
      try rw [vrd qv4 (show ((l4.toInt * 36) + l9.toInt) = v3.toInt from by omega)] at D
      refine x_aloadn (x := 70) rfl rfl ?_
      refine z_getR (N := 9) (b := 75) 5 6 rfl f_5_25 rfl J rfl 8966 ⟨rfl, rfl⟩ rfl ?_
      refine x_iload (x := l5) rfl rfl ?_
      refine x_bipush (v := 36) rfl kb_36 ?_
      refine z_imul rfl rfl jk_36 (by omega) (fun v5 ev5 => ?_)
      refine x_iload (x := l9) rfl rfl ?_
      refine z_iadd rfl rfl rfl (by omega) (fun v6 ev6 => ?_)
      refine z_iald0 (N := 43200) rfl J rfl rfl (by omega) (fun v7 qv7 => ?_)
      have ev7 := jfull v7
      try rw [vrd qv7 (show ((l5.toInt * 36) + l9.toInt) = v6.toInt from by omega)] at D
      refine x_iceq (tgt := 158) rfl rfl (ti_eq rfl rfl ⟨fun c8 => ?_, fun c8 => ?_⟩)
      ·
        rw [if_pos (by omega)] at D
        refine z_iinc (x := l9) (lsx9 := fun v9 => [(9, .int v9), (0, .ref 70), (4, .int l4), (5, .int l5), (8, .int l8)]) rfl rfl rfl jko_1 (by omega) rfl (fun _ => rfl) (fun v9 ev9 => ?_)
        refine x_goto (tgt := 120) rfl rfl ?_
        try rw [show (l9.toInt + 1) = v9.toInt from by omega] at D
        exact jX.sub (jsb_c rfl (jsb_c rfl (jsb_c rfl (jsb_c rfl (jsb_c rfl jsb_n))))) (ih l4 l5 l8 v9 h (by omega) (jr_of rfl (by omega)) (jr_of rfl (by omega)) (jr_of rfl (by omega)) (jr_of rfl (by omega)) J Sm D EV)
      ·
        rw [if_neg (by omega)] at D
        refine x_iconst (v := 1) rfl ki_1 ?_
        refine x_zret rfl rfl (by decide) ?_
        exact hQ _ _ (jr_of jk_1 (by omega)) J Sm (D.symm.trans (show 1 = (1 : Int32).toInt from by have := jk_1; omega)) EV
set_option maxRecDepth 100000 in
set_option maxHeartbeats 4000000 in
theorem ct_X5_differ_r70d_108 {Dy : jH → Prop} {h0 : jH} {Q : Option Value → jH → Prop} {dr : Int} (hD : jDk Dy) (hQ : ∀ (v : Int32) hx9, 0 ≤ v.toInt ∧ v.toInt ≤ 1 → jJ jSgX Dy hx9 → jSm fp_X5_differ_r70d h0 hx9 → dr = v.toInt → vw hx9 = vw h0 → Q (some (.int v)) hx9) : ∀ (l4 : Int32) (l5 : Int32) (l6 : Int32) (l7 : Int32) (h : jH), 0 ≤ l4.toInt ∧ l4.toInt ≤ 1199 → 0 ≤ l5.toInt ∧ l5.toInt ≤ 1199 → 0 ≤ l6.toInt ∧ l6.toInt ≤ 36 → 0 ≤ l7.toInt ∧ l7.toInt ≤ 36 → jJ jSgX Dy h → jSm fp_X5_differ_r70d h0 h → d_X5_differ_r70d_108  l4.toInt l5.toInt l6.toInt l7.toInt (vw h) = dr → vw h = vw h0 → jX m_X5_differ 1 0 0 108 [(0, .ref 70), (4, .int l4), (5, .int l5), (6, .int l6), (7, .int l7)] [] h 0 0 Q := by
  intro l4 l5 l6 l7 h y0 y1 y2 y3   J Sm D EV
  unfold d_X5_differ_r70d_108 at D
  refine x_iload (x := l6) rfl rfl ?_
  refine x_iload (x := l7) rfl rfl ?_
  refine z_mmin rfl q_5_125 (by decide) rfl rfl rfl (fun v1 ev1 => ?_)
  refine x_istore (lsx9 := [(8, .int v1), (0, .ref 70), (4, .int l4), (5, .int l5), (6, .int l6), (7, .int l7)]) rfl rfl rfl ?_
  refine x_iconst (v := 0) rfl ki_0 ?_
  refine x_istore (lsx9 := [(9, .int 0), (8, .int v1), (0, .ref 70), (4, .int l4), (5, .int l5), (6, .int l6), (7, .int l7)]) rfl rfl rfl ?_
  try rw [show (min l6.toInt l7.toInt) = v1.toInt from by omega] at D
  exact jX.sub (jsb_c rfl (jsb_c rfl (jsb_c rfl (jsb_c rfl (jsb_c rfl jsb_n))))) (ct_X5_differ_r70d_120 hD hQ  37 l4 l5 v1 0 h (by have := jk_0; omega) (jr_of rfl (by omega)) (jr_of rfl (by omega)) (jr_of rfl (by omega)) (jr_of jk_0 (by omega)) J Sm (by rw [jk_0]; exact D) EV)
set_option maxRecDepth 100000 in
set_option maxHeartbeats 4000000 in
theorem ct_X5_differ_r70d_106 {Dy : jH → Prop} {h0 : jH} {Q : Option Value → jH → Prop} {dr : Int} (hD : jDk Dy) (hQ : ∀ (v : Int32) hx9, 0 ≤ v.toInt ∧ v.toInt ≤ 1 → jJ jSgX Dy hx9 → jSm fp_X5_differ_r70d h0 hx9 → dr = v.toInt → vw hx9 = vw h0 → Q (some (.int v)) hx9) : ∀ (h : jH), jJ jSgX Dy h → jSm fp_X5_differ_r70d h0 h → d_X5_differ_r70d_106  (vw h) = dr → vw h = vw h0 → jX m_X5_differ 1 0 0 106 [] [] h 0 0 Q := by
  intro  h    J Sm D EV
  unfold d_X5_differ_r70d_106 at D
  refine x_iconst (v := 1) rfl ki_1 ?_
  refine x_zret rfl rfl (by decide) ?_
  exact hQ _ _ (jr_of jk_1 (by omega)) J Sm (D.symm.trans (show 1 = (1 : Int32).toInt from by have := jk_1; omega)) EV
set_option maxRecDepth 100000 in
set_option maxHeartbeats 4000000 in
theorem ct_X5_differ_r70d_89 {Dy : jH → Prop} {h0 : jH} {Q : Option Value → jH → Prop} {dr : Int} (hD : jDk Dy) (hQ : ∀ (v : Int32) hx9, 0 ≤ v.toInt ∧ v.toInt ≤ 1 → jJ jSgX Dy hx9 → jSm fp_X5_differ_r70d h0 hx9 → dr = v.toInt → vw hx9 = vw h0 → Q (some (.int v)) hx9) : ∀ (l4 : Int32) (l5 : Int32) (l6 : Int32) (l7 : Int32) (h : jH), 0 ≤ l4.toInt ∧ l4.toInt ≤ 1199 → 0 ≤ l5.toInt ∧ l5.toInt ≤ 1199 → 0 ≤ l6.toInt ∧ l6.toInt ≤ 36 → 0 ≤ l7.toInt ∧ l7.toInt ≤ 36 → jJ jSgX Dy h → jSm fp_X5_differ_r70d h0 h → d_X5_differ_r70d_89  l4.toInt l5.toInt l6.toInt l7.toInt (vw h) = dr → vw h = vw h0 → jX m_X5_differ 1 0 0 89 [(0, .ref 70), (4, .int l4), (5, .int l5), (6, .int l6), (7, .int l7)] [] h 0 0 Q := by
  intro l4 l5 l6 l7 h y0 y1 y2 y3   J Sm D EV
  unfold d_X5_differ_r70d_89 at D
  refine x_aloadn (x := 70) rfl rfl ?_
  refine z_getR (N := 9) (b := 77) 5 8 rfl f_5_31 rfl J rfl 8968 ⟨rfl, rfl⟩ rfl ?_
  refine x_iload (x := l5) rfl rfl ?_
  refine z_zald (N := 1200) rfl J rfl sg_77_0_1200_1_0_1 rfl (by omega) (fun v1 qv1 ev1 => ?_)
  try rw [vrd qv1 (show l5.toInt = l5.toInt from by omega)] at D
  refine x_ifne (tgt := 108) rfl rfl (ti_ne rfl jk_0 ⟨fun c2 => ?_, fun c2 => ?_⟩)
  ·
    rw [if_neg (by omega)] at D
    exact jX.sub (jsb_c rfl (jsb_c rfl (jsb_c rfl (jsb_c rfl (jsb_c rfl jsb_n))))) (ct_X5_differ_r70d_108 hD hQ  l4 l5 l6 l7 h (jr_of rfl (by omega)) (jr_of rfl (by omega)) (jr_of rfl (by omega)) (jr_of rfl (by omega)) J Sm D EV)
  ·
    rw [if_pos (by omega)] at D
    refine x_iload (x := l6) rfl rfl ?_
    refine x_iload (x := l7) rfl rfl ?_
    refine x_icle (tgt := 108) rfl rfl (ti_le rfl rfl ⟨fun c3 => ?_, fun c3 => ?_⟩)
    ·
      rw [if_pos (by omega)] at D
      exact jX.sub (jsb_c rfl (jsb_c rfl (jsb_c rfl (jsb_c rfl (jsb_c rfl jsb_n))))) (ct_X5_differ_r70d_108 hD hQ  l4 l5 l6 l7 h (jr_of rfl (by omega)) (jr_of rfl (by omega)) (jr_of rfl (by omega)) (jr_of rfl (by omega)) J Sm D EV)
    ·
      rw [if_neg (by omega)] at D
      exact jX.sub jsb_n (ct_X5_differ_r70d_106 hD hQ  h J Sm D EV)
set_option maxRecDepth 100000 in
set_option maxHeartbeats 4000000 in
theorem sf_X5_differ_r70d {Dy : jH → Prop} {h : jH} {Q : Option Value → jH → Prop} {dr : Int} {a1 : Int32} {a2 : Int32} {a3 : Int32} (y1 : 0 ≤ a1.toInt ∧ a1.toInt ≤ 599) (y2 : 0 ≤ a2.toInt ∧ a2.toInt ≤ 599) (y3 : 0 ≤ a3.toInt ∧ a3.toInt ≤ 1) (hD : jDk Dy) (J : jJ jSgX Dy h) (D : d_X5_differ_r70d a1.toInt a2.toInt a3.toInt (vw h) = dr) (hQ : ∀ (v : Int32) hx9, 0 ≤ v.toInt ∧ v.toInt ≤ 1 → jJ jSgX Dy hx9 → jSm fp_X5_differ_r70d h hx9 → dr = v.toInt → vw hx9 = vw h → Q (some (.int v)) hx9) : jC m_X5_differ 1 0 0 [.ref 70, .int a1, .int a2, .int a3] h Q := by
  refine jC.of rfl k_X5_differ rfl ?_
  have Sm := jSm_rf fp_X5_differ_r70d h
  show jX m_X5_differ 1 0 0 0 [(0, .ref 70), (1, .int a1), (2, .int a2), (3, .int a3)] [] _ 0 0 _
  unfold d_X5_differ_r70d at D
  have EV : vw h = vw h := rfl
  refine x_iloadn (x := a1) rfl rfl ?_
  refine x_iconst (v := 2) rfl ki_2 ?_
  refine z_imul rfl rfl jk_2 (by omega) (fun v1 ev1 => ?_)
  refine x_iloadn (x := a3) rfl rfl ?_
  refine z_iadd rfl rfl rfl (by omega) (fun v2 ev2 => ?_)
  refine x_istore (lsx9 := [(4, .int v2), (0, .ref 70), (1, .int a1), (2, .int a2), (3, .int a3)]) rfl rfl rfl ?_
  refine x_iloadn (x := a2) rfl rfl ?_
  refine x_iconst (v := 2) rfl ki_2 ?_
  refine z_imul rfl rfl jk_2 (by omega) (fun v3 ev3 => ?_)
  refine x_iloadn (x := a3) rfl rfl ?_
  refine z_iadd rfl rfl rfl (by omega) (fun v4 ev4 => ?_)
  refine x_istore (lsx9 := [(5, .int v4), (4, .int v2), (0, .ref 70), (1, .int a1), (2, .int a2), (3, .int a3)]) rfl rfl rfl ?_
  refine x_iload (x := v2) rfl rfl ?_
  refine x_iflt (tgt := 40) rfl rfl (ti_lt rfl jk_0 (br_f (by omega) ?_))
  refine x_iload (x := v4) rfl rfl ?_
  refine x_iflt (tgt := 40) rfl rfl (ti_lt rfl jk_0 (br_f (by omega) ?_))
  refine x_iload (x := v2) rfl rfl ?_
  refine x_sipush (v := 1200) rfl ks_1200 ?_
  refine x_icge (tgt := 40) rfl rfl (ti_ge rfl jk_1200 (br_f (by omega) ?_))
  refine x_iload (x := v4) rfl rfl ?_
  refine x_sipush (v := 1200) rfl ks_1200 ?_
  refine x_iclt (tgt := 42) rfl rfl (ti_lt rfl jk_1200 (br_t (by omega) ?_))
  refine x_aloadn (x := 70) rfl rfl ?_
  refine z_getR (N := 9) (b := 76) 5 7 rfl f_5_28 rfl J rfl 8967 ⟨rfl, rfl⟩ rfl ?_
  refine x_iload (x := v2) rfl rfl ?_
  refine z_iald (N := 1200) rfl J rfl sg_76_0_1200_1_0_1 rfl (by omega) (fun v5 qv5 ev5 => ?_)
  try rw [vrd qv5 (show ((a1.toInt * 2) + a3.toInt) = v2.toInt from by omega)] at D
  refine x_istore (lsx9 := [(6, .int v5), (5, .int v4), (4, .int v2), (0, .ref 70), (1, .int a1), (2, .int a2), (3, .int a3)]) rfl rfl rfl ?_
  refine x_aloadn (x := 70) rfl rfl ?_
  refine z_getR (N := 9) (b := 76) 5 7 rfl f_5_28 rfl J rfl 8967 ⟨rfl, rfl⟩ rfl ?_
  refine x_iload (x := v4) rfl rfl ?_
  refine z_iald (N := 1200) rfl J rfl sg_76_0_1200_1_0_1 rfl (by omega) (fun v6 qv6 ev6 => ?_)
  try rw [vrd qv6 (show ((a2.toInt * 2) + a3.toInt) = v4.toInt from by omega)] at D
  refine x_istore (lsx9 := [(7, .int v6), (6, .int v5), (5, .int v4), (4, .int v2), (0, .ref 70), (1, .int a1), (2, .int a2), (3, .int a3)]) rfl rfl rfl ?_
  refine x_iload (x := v5) rfl rfl ?_
  refine x_iflt (tgt := 70) rfl rfl (ti_lt rfl jk_0 ⟨fun c7 => ?_, fun c7 => ?_⟩)
  ·
    rw [if_pos (by omega)] at D
    exact jX.sub jsb_n (ct_X5_differ_r70d_70 hD hQ  h J Sm D EV)
  ·
    rw [if_neg (by omega)] at D
    refine x_iload (x := v6) rfl rfl ?_
    refine x_ifge (tgt := 72) rfl rfl (ti_ge rfl jk_0 ⟨fun c8 => ?_, fun c8 => ?_⟩)
    ·
      rw [if_pos (by omega)] at D
      refine x_aloadn (x := 70) rfl rfl ?_
      refine z_getR (N := 9) (b := 77) 5 8 rfl f_5_31 rfl J rfl 8968 ⟨rfl, rfl⟩ rfl ?_
      refine x_iload (x := v2) rfl rfl ?_
      refine z_zald (N := 1200) rfl J rfl sg_77_0_1200_1_0_1 rfl (by omega) (fun v9 qv9 ev9 => ?_)
      try rw [vrd qv9 (show ((a1.toInt * 2) + a3.toInt) = v2.toInt from by omega)] at D
      refine x_ifne (tgt := 89) rfl rfl (ti_ne rfl jk_0 ⟨fun c10 => ?_, fun c10 => ?_⟩)
      ·
        rw [if_neg (by omega)] at D
        try rw [show ((a1.toInt * 2) + a3.toInt) = v2.toInt from by omega] at D
        try rw [show ((a2.toInt * 2) + a3.toInt) = v4.toInt from by omega] at D
        exact jX.sub (jsb_c rfl (jsb_c rfl (jsb_c rfl (jsb_c rfl (jsb_c rfl jsb_n))))) (ct_X5_differ_r70d_89 hD hQ  v2 v4 v5 v6 h (jr_of rfl (by omega)) (jr_of rfl (by omega)) (jr_of rfl (by omega)) (jr_of rfl (by omega)) J Sm D EV)
      ·
        rw [if_pos (by omega)] at D
        refine x_iload (x := v6) rfl rfl ?_
        refine x_iload (x := v5) rfl rfl ?_
        refine x_icgt (tgt := 106) rfl rfl (ti_gt rfl rfl ⟨fun c11 => ?_, fun c11 => ?_⟩)
        ·
          rw [if_pos (by omega)] at D
          exact jX.sub jsb_n (ct_X5_differ_r70d_106 hD hQ  h J Sm D EV)
        ·
          rw [if_neg (by omega)] at D
          try rw [show ((a1.toInt * 2) + a3.toInt) = v2.toInt from by omega] at D
          try rw [show ((a2.toInt * 2) + a3.toInt) = v4.toInt from by omega] at D
          exact jX.sub (jsb_c rfl (jsb_c rfl (jsb_c rfl (jsb_c rfl (jsb_c rfl jsb_n))))) (ct_X5_differ_r70d_89 hD hQ  v2 v4 v5 v6 h (jr_of rfl (by omega)) (jr_of rfl (by omega)) (jr_of rfl (by omega)) (jr_of rfl (by omega)) J Sm D EV)
    ·
      rw [if_neg (by omega)] at D
      exact jX.sub jsb_n (ct_X5_differ_r70d_70 hD hQ  h J Sm D EV)
def fp_X8_at_r37_c0d : jFp := []
set_option maxRecDepth 100000 in
set_option maxHeartbeats 4000000 in
theorem ct_X8_at_r37_c0d_24 {Dy : jH → Prop} {h0 : jH} {Q : Option Value → jH → Prop} {dr : Int} (hD : jDk Dy) (hQ : ∀ (v : Int32) hx9, 0 ≤ v.toInt ∧ v.toInt ≤ 599 → jJ jSgX Dy hx9 → jSm fp_X8_at_r37_c0d h0 hx9 → dr = v.toInt → vw hx9 = vw h0 → Q (some (.int v)) hx9) : ∀ (h : jH), jJ jSgX Dy h → jSm fp_X8_at_r37_c0d h0 h → d_X8_at_r37_c0d_24  (vw h) = dr → vw h = vw h0 → jX m_X8_at 1 0 0 24 [] [] h 0 0 Q := by
  intro  h    J Sm D EV
  unfold d_X8_at_r37_c0d_24 at D
  refine x_iconst (v := 0) rfl ki_0 ?_
  refine x_iret rfl rfl ?_
  exact hQ _ _ (jr_of jk_0 (by omega)) J Sm (D.symm.trans (show 0 = (0 : Int32).toInt from by have := jk_0; omega)) EV
set_option maxRecDepth 100000 in
set_option maxHeartbeats 4000000 in
theorem sf_X8_at_r37_c0d {Dy : jH → Prop} {h : jH} {Q : Option Value → jH → Prop} {dr : Int} {a1 : Int32} (y1 : 0 ≤ a1.toInt ∧ a1.toInt ≤ 59) (hD : jDk Dy) (J : jJ jSgX Dy h) (D : d_X8_at_r37_c0d a1.toInt (vw h) = dr) (hQ : ∀ (v : Int32) hx9, 0 ≤ v.toInt ∧ v.toInt ≤ 599 → jJ jSgX Dy hx9 → jSm fp_X8_at_r37_c0d h hx9 → dr = v.toInt → vw hx9 = vw h → Q (some (.int v)) hx9) : jC m_X8_at 1 0 0 [.ref 37, .int a1, .int 0] h Q := by
  refine jC.of rfl k_X8_at rfl ?_
  have Sm := jSm_rf fp_X8_at_r37_c0d h
  show jX m_X8_at 1 0 0 0 [(0, .ref 37), (1, .int a1), (2, .int 0)] [] _ 0 0 _
  unfold d_X8_at_r37_c0d at D
  have EV : vw h = vw h := rfl
  refine x_iloadn (x := a1) rfl rfl ?_
  refine x_iflt (tgt := 24) rfl rfl (ti_lt rfl jk_0 (br_f (by omega) ?_))
  refine x_iloadn (x := a1) rfl rfl ?_
  refine x_aloadn (x := 37) rfl rfl ?_
  refine z_getI (N := 4) 8 3 rfl f_8_7 rfl J rfl sg_37_3_4_1_0_1 (fun v1 qv1 ev1 => ?_)
  try rw [vrf qv1] at D
  refine x_icge (tgt := 24) rfl rfl (ti_ge rfl rfl ⟨fun c2 => ?_, fun c2 => ?_⟩)
  ·
    rw [if_pos (by omega)] at D
    exact jX.sub jsb_n (ct_X8_at_r37_c0d_24 hD hQ  h J Sm D EV)
  ·
    rw [if_neg (by omega)] at D
    refine x_iloadn (x := 0) rfl rfl ?_
    refine x_iflt (tgt := 24) rfl rfl (ti_lt jk_0 jk_0 (br_f (by omega) ?_))
    refine x_iloadn (x := 0) rfl rfl ?_
    refine x_aloadn (x := 37) rfl rfl ?_
    refine z_getC (N := 4) (v := 2) 8 0 rfl f_8_19 rfl J rfl sg_37_0_1_1_0_1 jk_2 ?_
    refine x_iclt (tgt := 26) rfl rfl (ti_lt jk_0 jk_2 (br_t (by omega) ?_))
    refine x_aloadn (x := 37) rfl rfl ?_
    refine z_getR (N := 4) (b := 38) 8 2 rfl f_8_25 rfl J rfl 4738 ⟨rfl, rfl⟩ rfl ?_
    refine x_iloadn (x := a1) rfl rfl ?_
    refine x_aloadn (x := 37) rfl rfl ?_
    refine z_getC (N := 4) (v := 2) 8 0 rfl f_8_19 rfl J rfl sg_37_0_1_1_0_1 jk_2 ?_
    refine z_imul rfl rfl jk_2 (by omega) (fun v3 ev3 => ?_)
    refine x_iloadn (x := 0) rfl rfl ?_
    refine z_iadd rfl rfl jk_0 (by omega) (fun v4 ev4 => ?_)
    refine z_iald (N := 120) rfl J rfl sg_38_0_120_2_0_1 rfl (by omega) (fun v5 qv5 ev5 => ?_)
    try rw [vrd qv5 (show ((a1.toInt * 2) + 0) = v4.toInt from by omega)] at D
    refine x_iret rfl rfl ?_
    exact hQ _ _ (jr_of rfl (by omega)) J Sm (D.symm.trans (show v5.toInt = v5.toInt from by omega)) EV
def fp_X8_at_r37_c1d : jFp := []
set_option maxRecDepth 100000 in
set_option maxHeartbeats 4000000 in
theorem ct_X8_at_r37_c1d_24 {Dy : jH → Prop} {h0 : jH} {Q : Option Value → jH → Prop} {dr : Int} (hD : jDk Dy) (hQ : ∀ (v : Int32) hx9, 0 ≤ v.toInt ∧ v.toInt ≤ 599 → jJ jSgX Dy hx9 → jSm fp_X8_at_r37_c1d h0 hx9 → dr = v.toInt → vw hx9 = vw h0 → Q (some (.int v)) hx9) : ∀ (h : jH), jJ jSgX Dy h → jSm fp_X8_at_r37_c1d h0 h → d_X8_at_r37_c1d_24  (vw h) = dr → vw h = vw h0 → jX m_X8_at 1 0 0 24 [] [] h 0 0 Q := by
  intro  h    J Sm D EV
  unfold d_X8_at_r37_c1d_24 at D
  refine x_iconst (v := 0) rfl ki_0 ?_
  refine x_iret rfl rfl ?_
  exact hQ _ _ (jr_of jk_0 (by omega)) J Sm (D.symm.trans (show 0 = (0 : Int32).toInt from by have := jk_0; omega)) EV
set_option maxRecDepth 100000 in
set_option maxHeartbeats 4000000 in
theorem sf_X8_at_r37_c1d {Dy : jH → Prop} {h : jH} {Q : Option Value → jH → Prop} {dr : Int} {a1 : Int32} (y1 : 0 ≤ a1.toInt ∧ a1.toInt ≤ 59) (hD : jDk Dy) (J : jJ jSgX Dy h) (D : d_X8_at_r37_c1d a1.toInt (vw h) = dr) (hQ : ∀ (v : Int32) hx9, 0 ≤ v.toInt ∧ v.toInt ≤ 599 → jJ jSgX Dy hx9 → jSm fp_X8_at_r37_c1d h hx9 → dr = v.toInt → vw hx9 = vw h → Q (some (.int v)) hx9) : jC m_X8_at 1 0 0 [.ref 37, .int a1, .int 1] h Q := by
  refine jC.of rfl k_X8_at rfl ?_
  have Sm := jSm_rf fp_X8_at_r37_c1d h
  show jX m_X8_at 1 0 0 0 [(0, .ref 37), (1, .int a1), (2, .int 1)] [] _ 0 0 _
  unfold d_X8_at_r37_c1d at D
  have EV : vw h = vw h := rfl
  refine x_iloadn (x := a1) rfl rfl ?_
  refine x_iflt (tgt := 24) rfl rfl (ti_lt rfl jk_0 (br_f (by omega) ?_))
  refine x_iloadn (x := a1) rfl rfl ?_
  refine x_aloadn (x := 37) rfl rfl ?_
  refine z_getI (N := 4) 8 3 rfl f_8_7 rfl J rfl sg_37_3_4_1_0_1 (fun v1 qv1 ev1 => ?_)
  try rw [vrf qv1] at D
  refine x_icge (tgt := 24) rfl rfl (ti_ge rfl rfl ⟨fun c2 => ?_, fun c2 => ?_⟩)
  ·
    rw [if_pos (by omega)] at D
    exact jX.sub jsb_n (ct_X8_at_r37_c1d_24 hD hQ  h J Sm D EV)
  ·
    rw [if_neg (by omega)] at D
    refine x_iloadn (x := 1) rfl rfl ?_
    refine x_iflt (tgt := 24) rfl rfl (ti_lt jk_1 jk_0 (br_f (by omega) ?_))
    refine x_iloadn (x := 1) rfl rfl ?_
    refine x_aloadn (x := 37) rfl rfl ?_
    refine z_getC (N := 4) (v := 2) 8 0 rfl f_8_19 rfl J rfl sg_37_0_1_1_0_1 jk_2 ?_
    refine x_iclt (tgt := 26) rfl rfl (ti_lt jk_1 jk_2 (br_t (by omega) ?_))
    refine x_aloadn (x := 37) rfl rfl ?_
    refine z_getR (N := 4) (b := 38) 8 2 rfl f_8_25 rfl J rfl 4738 ⟨rfl, rfl⟩ rfl ?_
    refine x_iloadn (x := a1) rfl rfl ?_
    refine x_aloadn (x := 37) rfl rfl ?_
    refine z_getC (N := 4) (v := 2) 8 0 rfl f_8_19 rfl J rfl sg_37_0_1_1_0_1 jk_2 ?_
    refine z_imul rfl rfl jk_2 (by omega) (fun v3 ev3 => ?_)
    refine x_iloadn (x := 1) rfl rfl ?_
    refine z_iadd rfl rfl jk_1 (by omega) (fun v4 ev4 => ?_)
    refine z_iald (N := 120) rfl J rfl sg_38_0_120_2_1_2 rfl (by omega) (fun v5 qv5 ev5 => ?_)
    try rw [vrd qv5 (show ((a1.toInt * 2) + 1) = v4.toInt from by omega)] at D
    refine x_iret rfl rfl ?_
    exact hQ _ _ (jr_of rfl (by omega)) J Sm (D.symm.trans (show v5.toInt = v5.toInt from by omega)) EV
def fp_X7_areApart_r78d : jFp := []
set_option maxRecDepth 100000 in
set_option maxHeartbeats 4000000 in
theorem ct_X7_areApart_r78d_70 {Dy : jH → Prop} {h0 : jH} {Q : Option Value → jH → Prop} {dr : Int} {K2 : Int → Int → Int → jW → Int} {R2 : Int} (hD : jDk Dy) (hQ : ∀ (v : Int32) hx9, 0 ≤ v.toInt ∧ v.toInt ≤ 1 → jJ jSgX Dy hx9 → jSm fp_X7_areApart_r78d h0 hx9 → dr = v.toInt → vw hx9 = vw h0 → Q (some (.int v)) hx9) (k2 : ∀ (l1 : Int32) (l2 : Int32) (l3 : Int32) (h : jH), 60 - l3.toInt < R2 → 0 ≤ l1.toInt ∧ l1.toInt ≤ 599 → 0 ≤ l2.toInt ∧ l2.toInt ≤ 599 → 0 ≤ l3.toInt ∧ l3.toInt ≤ 60 → jJ jSgX Dy h → jSm fp_X7_areApart_r78d h0 h → K2 l1.toInt l2.toInt l3.toInt (vw h) = dr → vw h = vw h0 → jX m_X7_areApart 2 0 0 2 [(0, .ref 78), (1, .int l1), (2, .int l2), (3, .int l3)] [] h 0 0 Q) : ∀ (l1 : Int32) (l2 : Int32) (l3 : Int32) (h : jH), 0 ≤ l1.toInt ∧ l1.toInt ≤ 599 → 0 ≤ l2.toInt ∧ l2.toInt ≤ 599 → 0 ≤ l3.toInt ∧ l3.toInt ≤ 59 → 60 - l3.toInt ≤ R2 → jJ jSgX Dy h → jSm fp_X7_areApart_r78d h0 h → d_X7_areApart_r78d_70 K2  l1.toInt l2.toInt l3.toInt (vw h) = dr → vw h = vw h0 → jX m_X7_areApart 2 0 0 70 [(0, .ref 78), (1, .int l1), (2, .int l2), (3, .int l3)] [] h 0 0 Q := by
  intro l1 l2 l3 h y0 y1 y2  m2 J Sm D EV
  unfold d_X7_areApart_r78d_70 at D
  refine z_iinc (x := l3) (lsx9 := fun v1 => [(3, .int v1), (0, .ref 78), (1, .int l1), (2, .int l2)]) rfl rfl rfl jko_1 (by omega) rfl (fun _ => rfl) (fun v1 ev1 => ?_)
  refine x_goto (tgt := 2) rfl rfl ?_
  try rw [show (l3.toInt + 1) = v1.toInt from by omega] at D
  exact jX.sub (jsb_c rfl (jsb_c rfl (jsb_c rfl (jsb_c rfl jsb_n)))) (k2 l1 l2 v1 h (by omega) (jr_of rfl (by omega)) (jr_of rfl (by omega)) (jr_of rfl (by omega)) J Sm D EV)
set_option maxRecDepth 100000 in
set_option maxHeartbeats 4000000 in
theorem ct_X7_areApart_r78d_68 {Dy : jH → Prop} {h0 : jH} {Q : Option Value → jH → Prop} {dr : Int} (hD : jDk Dy) (hQ : ∀ (v : Int32) hx9, 0 ≤ v.toInt ∧ v.toInt ≤ 1 → jJ jSgX Dy hx9 → jSm fp_X7_areApart_r78d h0 hx9 → dr = v.toInt → vw hx9 = vw h0 → Q (some (.int v)) hx9) : ∀ (h : jH), jJ jSgX Dy h → jSm fp_X7_areApart_r78d h0 h → d_X7_areApart_r78d_68  (vw h) = dr → vw h = vw h0 → jX m_X7_areApart 2 0 0 68 [] [] h 0 0 Q := by
  intro  h    J Sm D EV
  unfold d_X7_areApart_r78d_68 at D
  refine x_iconst (v := 1) rfl ki_1 ?_
  refine x_zret rfl rfl (by decide) ?_
  exact hQ _ _ (jr_of jk_1 (by omega)) J Sm (D.symm.trans (show 1 = (1 : Int32).toInt from by have := jk_1; omega)) EV
set_option maxRecDepth 100000 in
set_option maxHeartbeats 4000000 in
theorem ct_X7_areApart_r78d_56 {Dy : jH → Prop} {h0 : jH} {Q : Option Value → jH → Prop} {dr : Int} {K2 : Int → Int → Int → jW → Int} {R2 : Int} (hD : jDk Dy) (hQ : ∀ (v : Int32) hx9, 0 ≤ v.toInt ∧ v.toInt ≤ 1 → jJ jSgX Dy hx9 → jSm fp_X7_areApart_r78d h0 hx9 → dr = v.toInt → vw hx9 = vw h0 → Q (some (.int v)) hx9) (k2 : ∀ (l1 : Int32) (l2 : Int32) (l3 : Int32) (h : jH), 60 - l3.toInt < R2 → 0 ≤ l1.toInt ∧ l1.toInt ≤ 599 → 0 ≤ l2.toInt ∧ l2.toInt ≤ 599 → 0 ≤ l3.toInt ∧ l3.toInt ≤ 60 → jJ jSgX Dy h → jSm fp_X7_areApart_r78d h0 h → K2 l1.toInt l2.toInt l3.toInt (vw h) = dr → vw h = vw h0 → jX m_X7_areApart 2 0 0 2 [(0, .ref 78), (1, .int l1), (2, .int l2), (3, .int l3)] [] h 0 0 Q) : ∀ (l1 : Int32) (l2 : Int32) (l3 : Int32) (l4 : Int32) (l5 : Int32) (h : jH), 0 ≤ l1.toInt ∧ l1.toInt ≤ 599 → 0 ≤ l2.toInt ∧ l2.toInt ≤ 599 → 0 ≤ l3.toInt ∧ l3.toInt ≤ 59 → 0 ≤ l4.toInt ∧ l4.toInt ≤ 599 → 0 ≤ l5.toInt ∧ l5.toInt ≤ 599 → 60 - l3.toInt ≤ R2 → jJ jSgX Dy h → jSm fp_X7_areApart_r78d h0 h → d_X7_areApart_r78d_56 K2  l1.toInt l2.toInt l3.toInt l4.toInt l5.toInt (vw h) = dr → vw h = vw h0 → jX m_X7_areApart 2 0 0 56 [(0, .ref 78), (1, .int l1), (2, .int l2), (3, .int l3), (4, .int l4), (5, .int l5)] [] h 0 0 Q := by
  intro l1 l2 l3 l4 l5 h y0 y1 y2 y3 y4  m2 J Sm D EV
  unfold d_X7_areApart_r78d_56 at D
  refine x_iload (x := l4) rfl rfl ?_
  refine x_iloadn (x := l2) rfl rfl ?_
  refine x_icne (tgt := 70) rfl rfl (ti_ne rfl rfl ⟨fun c1 => ?_, fun c1 => ?_⟩)
  ·
    rw [if_neg (by omega)] at D
    exact jX.sub (jsb_c rfl (jsb_c rfl (jsb_c rfl (jsb_c rfl jsb_n)))) (ct_X7_areApart_r78d_70 hD hQ k2 l1 l2 l3 h (jr_of rfl (by omega)) (jr_of rfl (by omega)) (jr_of rfl (by omega)) (by omega) J Sm D EV)
  ·
    rw [if_pos (by omega)] at D
    refine x_iload (x := l5) rfl rfl ?_
    refine x_iloadn (x := l1) rfl rfl ?_
    refine x_icne (tgt := 70) rfl rfl (ti_ne rfl rfl ⟨fun c2 => ?_, fun c2 => ?_⟩)
    ·
      rw [if_neg (by omega)] at D
      exact jX.sub (jsb_c rfl (jsb_c rfl (jsb_c rfl (jsb_c rfl jsb_n)))) (ct_X7_areApart_r78d_70 hD hQ k2 l1 l2 l3 h (jr_of rfl (by omega)) (jr_of rfl (by omega)) (jr_of rfl (by omega)) (by omega) J Sm D EV)
    ·
      rw [if_pos (by omega)] at D
      exact jX.sub jsb_n (ct_X7_areApart_r78d_68 hD hQ  h J Sm D EV)
set_option maxRecDepth 100000 in
set_option maxHeartbeats 4000000 in
theorem ct_X7_areApart_r78d_2 {Dy : jH → Prop} {h0 : jH} {Q : Option Value → jH → Prop} {dr : Int} (hD : jDk Dy) (hQ : ∀ (v : Int32) hx9, 0 ≤ v.toInt ∧ v.toInt ≤ 1 → jJ jSgX Dy hx9 → jSm fp_X7_areApart_r78d h0 hx9 → dr = v.toInt → vw hx9 = vw h0 → Q (some (.int v)) hx9) : ∀ r : Nat, ∀ (l1 : Int32) (l2 : Int32) (l3 : Int32) (h : jH), 60 - l3.toInt < (r : Int) → 0 ≤ l1.toInt ∧ l1.toInt ≤ 599 → 0 ≤ l2.toInt ∧ l2.toInt ≤ 599 → 0 ≤ l3.toInt ∧ l3.toInt ≤ 60 → jJ jSgX Dy h → jSm fp_X7_areApart_r78d h0 h → d_X7_areApart_r78d_2 r l1.toInt l2.toInt l3.toInt (vw h) = dr → vw h = vw h0 → jX m_X7_areApart 2 0 0 2 [(0, .ref 78), (1, .int l1), (2, .int l2), (3, .int l3)] [] h 0 0 Q := by
  intro r
  induction r with
  | zero =>
    intro l1 l2 l3 h hm y0 y1 y2   J Sm D EV
    exfalso
    omega
  | succ r ih =>
    intro l1 l2 l3 h hm y0 y1 y2   J Sm D EV
    rw [d_X7_areApart_r78d_2.eq_2] at D
    refine x_iloadn (x := l3) rfl rfl ?_
    refine x_aloadn (x := 78) rfl rfl ?_
    refine z_getR (N := 16) (b := 32) 7 0 rfl f_7_55 rfl J rfl 9984 ⟨rfl, rfl⟩ rfl ?_
    refine z_getR (N := 20) (b := 37) 1 2 rfl f_7_113 rfl J rfl 4098 ⟨rfl, rfl⟩ rfl ?_
    refine z_getI (N := 4) 8 3 rfl f_7_85 rfl J rfl sg_37_3_4_1_0_1 (fun v1 qv1 ev1 => ?_)
    try rw [vrf qv1] at D
    refine x_icge (tgt := 76) rfl rfl (ti_ge rfl rfl ⟨fun c2 => ?_, fun c2 => ?_⟩)
    ·
      rw [if_pos (by omega)] at D
      refine x_iconst (v := 0) rfl ki_0 ?_
      refine x_zret rfl rfl (by decide) ?_
      exact hQ _ _ (jr_of jk_0 (by omega)) J Sm (D.symm.trans (show 0 = (0 : Int32).toInt from by have := jk_0; omega)) EV
    ·
      rw [if_neg (by omega)] at D
      refine x_aloadn (x := 78) rfl rfl ?_
      refine z_getR (N := 16) (b := 32) 7 0 rfl f_7_55 rfl J rfl 9984 ⟨rfl, rfl⟩ rfl ?_
      refine z_getR (N := 20) (b := 37) 1 2 rfl f_7_113 rfl J rfl 4098 ⟨rfl, rfl⟩ rfl ?_
      refine x_iloadn (x := l3) rfl rfl ?_
      refine x_iconst (v := 0) rfl ki_0 ?_
      refine x_inv (N := m_X8_at) (As := [.int l3, .int 0]) (b := 37) (st := []) (dx9 := 1) (mc := 0) (ms := 0) (host := "") 8 rfl t_X8_at ⟨Or.inl q_7_69, i_X8_at.1, i_X8_at.2⟩ ⟨by decide, rfl⟩ (congrArg Prod.fst (J.1.1 37 (8, 4) rfl)) rfl (by decide) rfl rfl ⟨by decide, by decide⟩ (sf_X8_at_r37_c0d (jr_of rfl (by omega)) hD J rfl  (fun v6 h ev6 J S3 X4 X5 => ?_))
      have Sm := jSm_tr rfl Sm S3
      try rw [X4] at D
      try rw [← X5] at D
      have EV := X5.trans EV
      show jX m_X7_areApart 2 0 0 28 [(0, .ref 78), (1, .int l1), (2, .int l2), (3, .int l3)] [.int v6] _ 0 0 _
      refine x_istore (lsx9 := [(4, .int v6), (0, .ref 78), (1, .int l1), (2, .int l2), (3, .int l3)]) rfl rfl rfl ?_
      refine x_aloadn (x := 78) rfl rfl ?_
      refine z_getR (N := 16) (b := 32) 7 0 rfl f_7_55 rfl J rfl 9984 ⟨rfl, rfl⟩ rfl ?_
      refine z_getR (N := 20) (b := 37) 1 2 rfl f_7_113 rfl J rfl 4098 ⟨rfl, rfl⟩ rfl ?_
      refine x_iloadn (x := l3) rfl rfl ?_
      refine x_iconst (v := 1) rfl ki_1 ?_
      refine x_inv (N := m_X8_at) (As := [.int l3, .int 1]) (b := 37) (st := []) (dx9 := 1) (mc := 0) (ms := 0) (host := "") 8 rfl t_X8_at ⟨Or.inl q_7_69, i_X8_at.1, i_X8_at.2⟩ ⟨by decide, rfl⟩ (congrArg Prod.fst (J.1.1 37 (8, 4) rfl)) rfl (by decide) rfl rfl ⟨by decide, by decide⟩ (sf_X8_at_r37_c1d (jr_of rfl (by omega)) hD J rfl  (fun v10 h ev10 J S7 X8 X9 => ?_))
      have Sm := jSm_tr rfl Sm S7
      try rw [X8] at D
      try rw [← X9] at D
      have EV := X9.trans EV
      show jX m_X7_areApart 2 0 0 42 [(4, .int v6), (0, .ref 78), (1, .int l1), (2, .int l2), (3, .int l3)] [.int v10] _ 0 0 _
      refine x_istore (lsx9 := [(5, .int v10), (4, .int v6), (0, .ref 78), (1, .int l1), (2, .int l2), (3, .int l3)]) rfl rfl rfl ?_
      refine x_iload (x := v6) rfl rfl ?_
      refine x_iloadn (x := l1) rfl rfl ?_
      refine x_icne (tgt := 56) rfl rfl (ti_ne rfl rfl ⟨fun c11 => ?_, fun c11 => ?_⟩)
      ·
        rw [if_neg (by omega)] at D
        exact jX.sub (jsb_c rfl (jsb_c rfl (jsb_c rfl (jsb_c rfl (jsb_c rfl (jsb_c rfl jsb_n)))))) (ct_X7_areApart_r78d_56 hD hQ ih l1 l2 l3 v6 v10 h (jr_of rfl (by omega)) (jr_of rfl (by omega)) (jr_of rfl (by omega)) (jr_of rfl (by omega)) (jr_of rfl (by omega)) (by omega) J Sm D EV)
      ·
        rw [if_pos (by omega)] at D
        refine x_iload (x := v10) rfl rfl ?_
        refine x_iloadn (x := l2) rfl rfl ?_
        refine x_iceq (tgt := 68) rfl rfl (ti_eq rfl rfl ⟨fun c12 => ?_, fun c12 => ?_⟩)
        ·
          rw [if_pos (by omega)] at D
          exact jX.sub jsb_n (ct_X7_areApart_r78d_68 hD hQ  h J Sm D EV)
        ·
          rw [if_neg (by omega)] at D
          exact jX.sub (jsb_c rfl (jsb_c rfl (jsb_c rfl (jsb_c rfl (jsb_c rfl (jsb_c rfl jsb_n)))))) (ct_X7_areApart_r78d_56 hD hQ ih l1 l2 l3 v6 v10 h (jr_of rfl (by omega)) (jr_of rfl (by omega)) (jr_of rfl (by omega)) (jr_of rfl (by omega)) (jr_of rfl (by omega)) (by omega) J Sm D EV)
set_option maxRecDepth 100000 in
set_option maxHeartbeats 4000000 in
theorem sf_X7_areApart_r78d {Dy : jH → Prop} {h : jH} {Q : Option Value → jH → Prop} {dr : Int} {a1 : Int32} {a2 : Int32} (y1 : 0 ≤ a1.toInt ∧ a1.toInt ≤ 599) (y2 : 0 ≤ a2.toInt ∧ a2.toInt ≤ 599) (hD : jDk Dy) (J : jJ jSgX Dy h) (D : d_X7_areApart_r78d a1.toInt a2.toInt (vw h) = dr) (hQ : ∀ (v : Int32) hx9, 0 ≤ v.toInt ∧ v.toInt ≤ 1 → jJ jSgX Dy hx9 → jSm fp_X7_areApart_r78d h hx9 → dr = v.toInt → vw hx9 = vw h → Q (some (.int v)) hx9) : jC m_X7_areApart 2 0 0 [.ref 78, .int a1, .int a2] h Q := by
  refine jC.of rfl k_X7_areApart rfl ?_
  have Sm := jSm_rf fp_X7_areApart_r78d h
  show jX m_X7_areApart 2 0 0 0 [(0, .ref 78), (1, .int a1), (2, .int a2)] [] _ 0 0 _
  unfold d_X7_areApart_r78d at D
  have EV : vw h = vw h := rfl
  refine x_iconst (v := 0) rfl ki_0 ?_
  refine x_istoren (lsx9 := [(3, .int 0), (0, .ref 78), (1, .int a1), (2, .int a2)]) rfl rfl rfl ?_
  exact jX.sub (jsb_c rfl (jsb_c rfl (jsb_c rfl (jsb_c rfl jsb_n)))) (ct_X7_areApart_r78d_2 hD hQ  61 a1 a2 0 h (by have := jk_0; omega) (jr_of rfl (by omega)) (jr_of rfl (by omega)) (jr_of jk_0 (by omega)) J Sm (by rw [jk_0]; exact D) EV)
def fp_X7_isOutOfLife_r78d : jFp := []
set_option maxRecDepth 100000 in
set_option maxHeartbeats 4000000 in
theorem ct_X7_isOutOfLife_r78d_200113 {Dy : jH → Prop} {h0 : jH} {Q : Option Value → jH → Prop} {dr : Int} (hD : jDk Dy) (hQ : ∀ (v : Int32) hx9, 0 ≤ v.toInt ∧ v.toInt ≤ 1 → jJ jSgX Dy hx9 → jSm fp_X7_isOutOfLife_r78d h0 hx9 → dr = v.toInt → vw hx9 = vw h0 → Q (some (.int v)) hx9) : ∀ (h : jH), jJ jSgX Dy h → jSm fp_X7_isOutOfLife_r78d h0 h → d_X7_isOutOfLife_r78d_200113  (vw h) = dr → vw h = vw h0 → jX m_X7_isOutOfLife 2 0 0 113 [] [.int 0] h 0 0 Q := by
  intro  h    J Sm D EV
  unfold d_X7_isOutOfLife_r78d_200113 at D
  refine x_zret rfl rfl (by decide) ?_
  exact hQ _ _ (jr_of jk_0 (by omega)) J Sm (D.symm.trans (show 0 = (0 : Int32).toInt from by have := jk_0; omega)) EV
set_option maxRecDepth 100000 in
set_option maxHeartbeats 4000000 in
theorem ct_X7_isOutOfLife_r78d_300113 {Dy : jH → Prop} {h0 : jH} {Q : Option Value → jH → Prop} {dr : Int} (hD : jDk Dy) (hQ : ∀ (v : Int32) hx9, 0 ≤ v.toInt ∧ v.toInt ≤ 1 → jJ jSgX Dy hx9 → jSm fp_X7_isOutOfLife_r78d h0 hx9 → dr = v.toInt → vw hx9 = vw h0 → Q (some (.int v)) hx9) : ∀ (h : jH), jJ jSgX Dy h → jSm fp_X7_isOutOfLife_r78d h0 h → d_X7_isOutOfLife_r78d_300113  (vw h) = dr → vw h = vw h0 → jX m_X7_isOutOfLife 2 0 0 113 [] [.int 1] h 0 0 Q := by
  intro  h    J Sm D EV
  unfold d_X7_isOutOfLife_r78d_300113 at D
  refine x_zret rfl rfl (by decide) ?_
  exact hQ _ _ (jr_of jk_1 (by omega)) J Sm (D.symm.trans (show 1 = (1 : Int32).toInt from by have := jk_1; omega)) EV
set_option maxRecDepth 100000 in
set_option maxHeartbeats 4000000 in
theorem ct_X7_isOutOfLife_r78d_112 {Dy : jH → Prop} {h0 : jH} {Q : Option Value → jH → Prop} {dr : Int} (hD : jDk Dy) (hQ : ∀ (v : Int32) hx9, 0 ≤ v.toInt ∧ v.toInt ≤ 1 → jJ jSgX Dy hx9 → jSm fp_X7_isOutOfLife_r78d h0 hx9 → dr = v.toInt → vw hx9 = vw h0 → Q (some (.int v)) hx9) : ∀ (h : jH), jJ jSgX Dy h → jSm fp_X7_isOutOfLife_r78d h0 h → d_X7_isOutOfLife_r78d_112  (vw h) = dr → vw h = vw h0 → jX m_X7_isOutOfLife 2 0 0 112 [] [] h 0 0 Q := by
  intro  h    J Sm D EV
  unfold d_X7_isOutOfLife_r78d_112 at D
  refine x_iconst (v := 0) rfl ki_0 ?_
  exact jX.sub jsb_n (ct_X7_isOutOfLife_r78d_200113 hD hQ  h J Sm D EV)
set_option maxRecDepth 100000 in
set_option maxHeartbeats 4000000 in
theorem ct_X7_isOutOfLife_r78d_200105 {Dy : jH → Prop} {h0 : jH} {Q : Option Value → jH → Prop} {dr : Int} (hD : jDk Dy) (hQ : ∀ (v : Int32) hx9, 0 ≤ v.toInt ∧ v.toInt ≤ 1 → jJ jSgX Dy hx9 → jSm fp_X7_isOutOfLife_r78d h0 hx9 → dr = v.toInt → vw hx9 = vw h0 → Q (some (.int v)) hx9) : ∀ (s1 : Int32) (h : jH), (-146399) ≤ s1.toInt ∧ s1.toInt ≤ 146399 → jJ jSgX Dy h → jSm fp_X7_isOutOfLife_r78d h0 h → d_X7_isOutOfLife_r78d_200105  s1.toInt (vw h) = dr → vw h = vw h0 → jX m_X7_isOutOfLife 2 0 0 105 [] [.int 0, .int s1] h 0 0 Q := by
  intro s1 h y0   J Sm D EV
  unfold d_X7_isOutOfLife_r78d_200105 at D
  refine x_icle (tgt := 112) rfl rfl (ti_le rfl jk_0 ⟨fun c1 => ?_, fun c1 => ?_⟩)
  ·
    rw [if_pos (by omega)] at D
    exact jX.sub jsb_n (ct_X7_isOutOfLife_r78d_112 hD hQ  h J Sm D EV)
  ·
    rw [if_neg (by omega)] at D
    refine x_iconst (v := 1) rfl ki_1 ?_
    refine x_goto (tgt := 113) rfl rfl ?_
    exact jX.sub jsb_n (ct_X7_isOutOfLife_r78d_300113 hD hQ  h J Sm D EV)
set_option maxRecDepth 100000 in
set_option maxHeartbeats 4000000 in
theorem ct_X7_isOutOfLife_r78d_105 {Dy : jH → Prop} {h0 : jH} {Q : Option Value → jH → Prop} {dr : Int} (hD : jDk Dy) (hQ : ∀ (v : Int32) hx9, 0 ≤ v.toInt ∧ v.toInt ≤ 1 → jJ jSgX Dy hx9 → jSm fp_X7_isOutOfLife_r78d h0 hx9 → dr = v.toInt → vw hx9 = vw h0 → Q (some (.int v)) hx9) : ∀ (s1 : Int32) (h : jH), (-146399) ≤ s1.toInt ∧ s1.toInt ≤ 146399 → jJ jSgX Dy h → jSm fp_X7_isOutOfLife_r78d h0 h → d_X7_isOutOfLife_r78d_105  s1.toInt (vw h) = dr → vw h = vw h0 → jX m_X7_isOutOfLife 2 0 0 105 [] [.int 366, .int s1] h 0 0 Q := by
  intro s1 h y0   J Sm D EV
  unfold d_X7_isOutOfLife_r78d_105 at D
  refine x_icle (tgt := 112) rfl rfl (ti_le rfl jk_366 ⟨fun c1 => ?_, fun c1 => ?_⟩)
  ·
    rw [if_pos (by omega)] at D
    exact jX.sub jsb_n (ct_X7_isOutOfLife_r78d_112 hD hQ  h J Sm D EV)
  ·
    rw [if_neg (by omega)] at D
    refine x_iconst (v := 1) rfl ki_1 ?_
    refine x_goto (tgt := 113) rfl rfl ?_
    exact jX.sub jsb_n (ct_X7_isOutOfLife_r78d_300113 hD hQ  h J Sm D EV)
set_option maxRecDepth 100000 in
set_option maxHeartbeats 4000000 in
theorem ct_X7_isOutOfLife_r78d_200076 {Dy : jH → Prop} {h0 : jH} {Q : Option Value → jH → Prop} {dr : Int} (hD : jDk Dy) (hQ : ∀ (v : Int32) hx9, 0 ≤ v.toInt ∧ v.toInt ≤ 1 → jJ jSgX Dy hx9 → jSm fp_X7_isOutOfLife_r78d h0 hx9 → dr = v.toInt → vw hx9 = vw h0 → Q (some (.int v)) hx9) : ∀ (h : jH), jJ jSgX Dy h → jSm fp_X7_isOutOfLife_r78d h0 h → d_X7_isOutOfLife_r78d_200076  (vw h) = dr → vw h = vw h0 → jX m_X7_isOutOfLife 2 0 0 76 [] [.int 0] h 0 0 Q := by
  intro  h    J Sm D EV
  unfold d_X7_isOutOfLife_r78d_200076 at D
  refine x_zret rfl rfl (by decide) ?_
  exact hQ _ _ (jr_of jk_0 (by omega)) J Sm (D.symm.trans (show 0 = (0 : Int32).toInt from by have := jk_0; omega)) EV
set_option maxRecDepth 100000 in
set_option maxHeartbeats 4000000 in
theorem ct_X7_isOutOfLife_r78d_300076 {Dy : jH → Prop} {h0 : jH} {Q : Option Value → jH → Prop} {dr : Int} (hD : jDk Dy) (hQ : ∀ (v : Int32) hx9, 0 ≤ v.toInt ∧ v.toInt ≤ 1 → jJ jSgX Dy hx9 → jSm fp_X7_isOutOfLife_r78d h0 hx9 → dr = v.toInt → vw hx9 = vw h0 → Q (some (.int v)) hx9) : ∀ (h : jH), jJ jSgX Dy h → jSm fp_X7_isOutOfLife_r78d h0 h → d_X7_isOutOfLife_r78d_300076  (vw h) = dr → vw h = vw h0 → jX m_X7_isOutOfLife 2 0 0 76 [] [.int 1] h 0 0 Q := by
  intro  h    J Sm D EV
  unfold d_X7_isOutOfLife_r78d_300076 at D
  refine x_zret rfl rfl (by decide) ?_
  exact hQ _ _ (jr_of jk_1 (by omega)) J Sm (D.symm.trans (show 1 = (1 : Int32).toInt from by have := jk_1; omega)) EV
set_option maxRecDepth 100000 in
set_option maxHeartbeats 4000000 in
theorem ct_X7_isOutOfLife_r78d_71 {Dy : jH → Prop} {h0 : jH} {Q : Option Value → jH → Prop} {dr : Int} (hD : jDk Dy) (hQ : ∀ (v : Int32) hx9, 0 ≤ v.toInt ∧ v.toInt ≤ 1 → jJ jSgX Dy hx9 → jSm fp_X7_isOutOfLife_r78d h0 hx9 → dr = v.toInt → vw hx9 = vw h0 → Q (some (.int v)) hx9) : ∀ (h : jH), jJ jSgX Dy h → jSm fp_X7_isOutOfLife_r78d h0 h → d_X7_isOutOfLife_r78d_71  (vw h) = dr → vw h = vw h0 → jX m_X7_isOutOfLife 2 0 0 71 [] [] h 0 0 Q := by
  intro  h    J Sm D EV
  unfold d_X7_isOutOfLife_r78d_71 at D
  refine x_iconst (v := 1) rfl ki_1 ?_
  refine x_goto (tgt := 76) rfl rfl ?_
  exact jX.sub jsb_n (ct_X7_isOutOfLife_r78d_300076 hD hQ  h J Sm D EV)
set_option maxRecDepth 100000 in
set_option maxHeartbeats 4000000 in
theorem ct_X7_isOutOfLife_r78d_75 {Dy : jH → Prop} {h0 : jH} {Q : Option Value → jH → Prop} {dr : Int} (hD : jDk Dy) (hQ : ∀ (v : Int32) hx9, 0 ≤ v.toInt ∧ v.toInt ≤ 1 → jJ jSgX Dy hx9 → jSm fp_X7_isOutOfLife_r78d h0 hx9 → dr = v.toInt → vw hx9 = vw h0 → Q (some (.int v)) hx9) : ∀ (h : jH), jJ jSgX Dy h → jSm fp_X7_isOutOfLife_r78d h0 h → d_X7_isOutOfLife_r78d_75  (vw h) = dr → vw h = vw h0 → jX m_X7_isOutOfLife 2 0 0 75 [] [] h 0 0 Q := by
  intro  h    J Sm D EV
  unfold d_X7_isOutOfLife_r78d_75 at D
  refine x_iconst (v := 0) rfl ki_0 ?_
  exact jX.sub jsb_n (ct_X7_isOutOfLife_r78d_200076 hD hQ  h J Sm D EV)
set_option maxRecDepth 100000 in
set_option maxHeartbeats 4000000 in
theorem ct_X7_isOutOfLife_r78d_200046 {Dy : jH → Prop} {h0 : jH} {Q : Option Value → jH → Prop} {dr : Int} (hD : jDk Dy) (hQ : ∀ (v : Int32) hx9, 0 ≤ v.toInt ∧ v.toInt ≤ 1 → jJ jSgX Dy hx9 → jSm fp_X7_isOutOfLife_r78d h0 hx9 → dr = v.toInt → vw hx9 = vw h0 → Q (some (.int v)) hx9) : ∀ (l2 : Int32) (l3 : Int32) (h : jH), 0 ≤ l2.toInt ∧ l2.toInt ≤ 599 → (-146399) ≤ l3.toInt ∧ l3.toInt ≤ 146399 → jJ jSgX Dy h → jSm fp_X7_isOutOfLife_r78d h0 h → d_X7_isOutOfLife_r78d_200046  l2.toInt l3.toInt (vw h) = dr → vw h = vw h0 → jX m_X7_isOutOfLife 2 0 0 46 [(0, .ref 78), (2, .int l2), (3, .int l3)] [.int 0] h 0 0 Q := by
  intro l2 l3 h y0 y1   J Sm D EV
  unfold d_X7_isOutOfLife_r78d_200046 at D
  refine x_istore (lsx9 := [(4, .int 0), (0, .ref 78), (2, .int l2), (3, .int l3)]) rfl rfl rfl ?_
  refine x_iloadn (x := l3) rfl rfl ?_
  refine x_iload (x := 0) rfl rfl ?_
  refine x_iclt (tgt := 71) rfl rfl (ti_lt rfl jk_0 ⟨fun c1 => ?_, fun c1 => ?_⟩)
  ·
    rw [if_pos (by omega)] at D
    exact jX.sub jsb_n (ct_X7_isOutOfLife_r78d_71 hD hQ  h J Sm D EV)
  ·
    rw [if_neg (by omega)] at D
    refine x_aloadn (x := 78) rfl rfl ?_
    refine z_getR (N := 16) (b := 79) 7 7 rfl f_7_27 rfl J rfl 9991 ⟨rfl, rfl⟩ rfl ?_
    refine x_iloadn (x := l2) rfl rfl ?_
    refine z_iald (N := 600) rfl J rfl sg_79_0_600_1_0_1 rfl (by omega) (fun v2 qv2 ev2 => ?_)
    try rw [vrd qv2 (show l2.toInt = l2.toInt from by omega)] at D
    refine x_iconst (v := 2) rfl ki_2 ?_
    refine x_icne (tgt := 75) rfl rfl (ti_ne rfl jk_2 ⟨fun c3 => ?_, fun c3 => ?_⟩)
    ·
      rw [if_neg (by omega)] at D
      exact jX.sub jsb_n (ct_X7_isOutOfLife_r78d_75 hD hQ  h J Sm D EV)
    ·
      rw [if_pos (by omega)] at D
      refine x_iloadn (x := l3) rfl rfl ?_
      refine x_sipush (v := 18300) rfl ks_18300 ?_
      refine x_icle (tgt := 75) rfl rfl (ti_le rfl jk_18300 ⟨fun c4 => ?_, fun c4 => ?_⟩)
      ·
        rw [if_pos (by omega)] at D
        exact jX.sub jsb_n (ct_X7_isOutOfLife_r78d_75 hD hQ  h J Sm D EV)
      ·
        rw [if_neg (by omega)] at D
        exact jX.sub jsb_n (ct_X7_isOutOfLife_r78d_71 hD hQ  h J Sm D EV)
set_option maxRecDepth 100000 in
set_option maxHeartbeats 4000000 in
theorem ct_X7_isOutOfLife_r78d_46 {Dy : jH → Prop} {h0 : jH} {Q : Option Value → jH → Prop} {dr : Int} (hD : jDk Dy) (hQ : ∀ (v : Int32) hx9, 0 ≤ v.toInt ∧ v.toInt ≤ 1 → jJ jSgX Dy hx9 → jSm fp_X7_isOutOfLife_r78d h0 hx9 → dr = v.toInt → vw hx9 = vw h0 → Q (some (.int v)) hx9) : ∀ (l2 : Int32) (l3 : Int32) (h : jH), 0 ≤ l2.toInt ∧ l2.toInt ≤ 599 → (-146399) ≤ l3.toInt ∧ l3.toInt ≤ 146399 → jJ jSgX Dy h → jSm fp_X7_isOutOfLife_r78d h0 h → d_X7_isOutOfLife_r78d_46  l2.toInt l3.toInt (vw h) = dr → vw h = vw h0 → jX m_X7_isOutOfLife 2 0 0 46 [(0, .ref 78), (2, .int l2), (3, .int l3)] [.int 5124] h 0 0 Q := by
  intro l2 l3 h y0 y1   J Sm D EV
  unfold d_X7_isOutOfLife_r78d_46 at D
  refine x_istore (lsx9 := [(4, .int 5124), (0, .ref 78), (2, .int l2), (3, .int l3)]) rfl rfl rfl ?_
  refine x_iloadn (x := l3) rfl rfl ?_
  refine x_iload (x := 5124) rfl rfl ?_
  refine x_iclt (tgt := 71) rfl rfl (ti_lt rfl jk_5124 ⟨fun c1 => ?_, fun c1 => ?_⟩)
  ·
    rw [if_pos (by omega)] at D
    exact jX.sub jsb_n (ct_X7_isOutOfLife_r78d_71 hD hQ  h J Sm D EV)
  ·
    rw [if_neg (by omega)] at D
    refine x_aloadn (x := 78) rfl rfl ?_
    refine z_getR (N := 16) (b := 79) 7 7 rfl f_7_27 rfl J rfl 9991 ⟨rfl, rfl⟩ rfl ?_
    refine x_iloadn (x := l2) rfl rfl ?_
    refine z_iald (N := 600) rfl J rfl sg_79_0_600_1_0_1 rfl (by omega) (fun v2 qv2 ev2 => ?_)
    try rw [vrd qv2 (show l2.toInt = l2.toInt from by omega)] at D
    refine x_iconst (v := 2) rfl ki_2 ?_
    refine x_icne (tgt := 75) rfl rfl (ti_ne rfl jk_2 ⟨fun c3 => ?_, fun c3 => ?_⟩)
    ·
      rw [if_neg (by omega)] at D
      exact jX.sub jsb_n (ct_X7_isOutOfLife_r78d_75 hD hQ  h J Sm D EV)
    ·
      rw [if_pos (by omega)] at D
      refine x_iloadn (x := l3) rfl rfl ?_
      refine x_sipush (v := 18300) rfl ks_18300 ?_
      refine x_icle (tgt := 75) rfl rfl (ti_le rfl jk_18300 ⟨fun c4 => ?_, fun c4 => ?_⟩)
      ·
        rw [if_pos (by omega)] at D
        exact jX.sub jsb_n (ct_X7_isOutOfLife_r78d_75 hD hQ  h J Sm D EV)
      ·
        rw [if_neg (by omega)] at D
        exact jX.sub jsb_n (ct_X7_isOutOfLife_r78d_71 hD hQ  h J Sm D EV)
set_option maxRecDepth 100000 in
set_option maxHeartbeats 4000000 in
theorem ct_X7_isOutOfLife_r78d_39 {Dy : jH → Prop} {h0 : jH} {Q : Option Value → jH → Prop} {dr : Int} (hD : jDk Dy) (hQ : ∀ (v : Int32) hx9, 0 ≤ v.toInt ∧ v.toInt ≤ 1 → jJ jSgX Dy hx9 → jSm fp_X7_isOutOfLife_r78d h0 hx9 → dr = v.toInt → vw hx9 = vw h0 → Q (some (.int v)) hx9) : ∀ (l2 : Int32) (l3 : Int32) (h : jH), 0 ≤ l2.toInt ∧ l2.toInt ≤ 599 → (-146399) ≤ l3.toInt ∧ l3.toInt ≤ 146399 → jJ jSgX Dy h → jSm fp_X7_isOutOfLife_r78d h0 h → d_X7_isOutOfLife_r78d_39  l2.toInt l3.toInt (vw h) = dr → vw h = vw h0 → jX m_X7_isOutOfLife 2 0 0 39 [(0, .ref 78), (2, .int l2), (3, .int l3)] [] h 0 0 Q := by
  intro l2 l3 h y0 y1   J Sm D EV
  unfold d_X7_isOutOfLife_r78d_39 at D
  refine x_sipush (v := 5124) rfl ks_5124 ?_
  refine x_goto (tgt := 46) rfl rfl ?_
  exact jX.sub (jsb_c rfl (jsb_c rfl (jsb_c rfl jsb_n))) (ct_X7_isOutOfLife_r78d_46 hD hQ  l2 l3 h (jr_of rfl (by omega)) (jr_of rfl (by omega)) J Sm D EV)
set_option maxRecDepth 100000 in
set_option maxHeartbeats 4000000 in
theorem sf_X7_isOutOfLife_r78d {Dy : jH → Prop} {h : jH} {Q : Option Value → jH → Prop} {dr : Int} {a1 : Int32} {a2 : Int32} (y1 : 0 ≤ a1.toInt ∧ a1.toInt ≤ 599) (y2 : 0 ≤ a2.toInt ∧ a2.toInt ≤ 599) (hD : jDk Dy) (J : jJ jSgX Dy h) (D : d_X7_isOutOfLife_r78d a1.toInt a2.toInt (vw h) = dr) (hQ : ∀ (v : Int32) hx9, 0 ≤ v.toInt ∧ v.toInt ≤ 1 → jJ jSgX Dy hx9 → jSm fp_X7_isOutOfLife_r78d h hx9 → dr = v.toInt → vw hx9 = vw h → Q (some (.int v)) hx9) : jC m_X7_isOutOfLife 2 0 0 [.ref 78, .int a1, .int a2] h Q := by
  refine jC.of rfl k_X7_isOutOfLife rfl ?_
  have Sm := jSm_rf fp_X7_isOutOfLife_r78d h
  show jX m_X7_isOutOfLife 2 0 0 0 [(0, .ref 78), (1, .int a1), (2, .int a2)] [] _ 0 0 _
  unfold d_X7_isOutOfLife_r78d at D
  have EV : vw h = vw h := rfl
  refine x_aloadn (x := 78) rfl rfl ?_
  refine z_getR (N := 16) (b := 80) 7 8 rfl f_7_31 rfl J rfl 9992 ⟨rfl, rfl⟩ rfl ?_
  refine x_iloadn (x := a2) rfl rfl ?_
  refine z_iald (N := 600) rfl J rfl sg_80_0_600_1_0_1 rfl (by omega) (fun v1 qv1 ev1 => ?_)
  try rw [vrd qv1 (show a2.toInt = a2.toInt from by omega)] at D
  refine x_aloadn (x := 78) rfl rfl ?_
  refine z_getR (N := 16) (b := 80) 7 8 rfl f_7_31 rfl J rfl 9992 ⟨rfl, rfl⟩ rfl ?_
  refine x_iloadn (x := a1) rfl rfl ?_
  refine z_iald (N := 600) rfl J rfl sg_80_0_600_1_0_1 rfl (by omega) (fun v2 qv2 ev2 => ?_)
  try rw [vrd qv2 (show a1.toInt = a1.toInt from by omega)] at D
  refine z_isub rfl rfl rfl (by omega) (fun v3 ev3 => ?_)
  refine x_istoren (lsx9 := [(3, .int v3), (0, .ref 78), (1, .int a1), (2, .int a2)]) rfl rfl rfl ?_
  refine x_aloadn (x := 78) rfl rfl ?_
  refine z_getR (N := 16) (b := 79) 7 7 rfl f_7_27 rfl J rfl 9991 ⟨rfl, rfl⟩ rfl ?_
  refine x_iloadn (x := a1) rfl rfl ?_
  refine z_iald (N := 600) rfl J rfl sg_79_0_600_1_0_1 rfl (by omega) (fun v4 qv4 ev4 => ?_)
  try rw [vrd qv4 (show a1.toInt = a1.toInt from by omega)] at D
  refine x_ifne (tgt := 77) rfl rfl (ti_ne rfl jk_0 ⟨fun c5 => ?_, fun c5 => ?_⟩)
  ·
    rw [if_neg (by omega)] at D
    refine x_aloadn (x := 78) rfl rfl ?_
    refine z_getR (N := 16) (b := 79) 7 7 rfl f_7_27 rfl J rfl 9991 ⟨rfl, rfl⟩ rfl ?_
    refine x_iloadn (x := a1) rfl rfl ?_
    refine z_ialdM (N := 600) (v := v4) rfl J rfl rfl (by omega) qv4 ?_
    refine x_iconst (v := 5) rfl ki_5 ?_
    refine x_icne (tgt := 112) rfl rfl (ti_ne rfl jk_5 ⟨fun c6 => ?_, fun c6 => ?_⟩)
    ·
      rw [if_neg (by omega)] at D
      exact jX.sub jsb_n (ct_X7_isOutOfLife_r78d_112 hD hQ  h J Sm D EV)
    ·
      rw [if_pos (by omega)] at D
      refine x_iloadn (x := v3) rfl rfl ?_
      refine x_aloadn (x := 78) rfl rfl ?_
      refine z_getR (N := 16) (b := 79) 7 7 rfl f_7_27 rfl J rfl 9991 ⟨rfl, rfl⟩ rfl ?_
      refine x_iloadn (x := a2) rfl rfl ?_
      refine z_iald (N := 600) rfl J rfl sg_79_0_600_1_0_1 rfl (by omega) (fun v7 qv7 ev7 => ?_)
      try rw [vrd qv7 (show a2.toInt = a2.toInt from by omega)] at D
      refine x_iconst (v := 1) rfl ki_1 ?_
      refine x_icne (tgt := 104) rfl rfl (ti_ne rfl jk_1 ⟨fun c8 => ?_, fun c8 => ?_⟩)
      ·
        rw [if_neg (by omega)] at D
        refine x_iconst (v := 0) rfl ki_0 ?_
        try rw [show (v1.toInt - v2.toInt) = v3.toInt from by omega] at D
        exact jX.sub jsb_n (ct_X7_isOutOfLife_r78d_200105 hD hQ  v3 h (jr_of rfl (by omega)) J Sm D EV)
      ·
        rw [if_pos (by omega)] at D
        refine x_sipush (v := 366) rfl ks_366 ?_
        refine x_goto (tgt := 105) rfl rfl ?_
        try rw [show (v1.toInt - v2.toInt) = v3.toInt from by omega] at D
        exact jX.sub jsb_n (ct_X7_isOutOfLife_r78d_105 hD hQ  v3 h (jr_of rfl (by omega)) J Sm D EV)
  ·
    rw [if_pos (by omega)] at D
    refine x_aloadn (x := 78) rfl rfl ?_
    refine x_iloadn (x := a2) rfl rfl ?_
    refine x_inv (N := m_X7_isMan) (As := [.int a2]) (b := 78) (st := []) (dx9 := 1) (mc := 0) (ms := 0) (host := "") 7 rfl t_X7_isMan ⟨Or.inl q_7_104, i_X7_isMan.1, i_X7_isMan.2⟩ ⟨by decide, rfl⟩ (congrArg Prod.fst (J.1.1 78 (7, 16) rfl)) rfl (by decide) rfl rfl ⟨by decide, by decide⟩ (jC.of rfl k_X7_isMan rfl ?_)
    show jX m_X7_isMan 1 0 0 0 [(0, .ref 78), (1, .int a2)] [] _ 0 0 _
    refine x_aloadn (x := 78) rfl rfl ?_
    refine z_getR (N := 16) (b := 79) 7 7 rfl f_7_27 rfl J rfl 9991 ⟨rfl, rfl⟩ rfl ?_
    refine x_iloadn (x := a2) rfl rfl ?_
    refine z_iald (N := 600) rfl J rfl sg_79_0_600_1_0_1 rfl (by omega) (fun v9 qv9 ev9 => ?_)
    try rw [vrd qv9 (show a2.toInt = a2.toInt from by omega)] at D
    refine x_iconst (v := 3) rfl ki_3 ?_
    refine x_iceq (tgt := 20) rfl rfl (ti_eq rfl jk_3 ⟨fun c10 => ?_, fun c10 => ?_⟩)
    ·
      rw [if_pos (by omega)] at D
      refine x_iconst (v := 1) rfl ki_1 ?_
      refine x_goto (tgt := 25) rfl rfl ?_
      refine x_zret rfl rfl (by decide) ?_
      show jX m_X7_isOutOfLife 2 0 0 28 [(3, .int v3), (0, .ref 78), (1, .int a1), (2, .int a2)] [.int 1] _ 0 0 _
      refine x_ifne (tgt := 39) rfl rfl (ti_ne jk_1 jk_0 (bn_t (by omega) ?_))
      try rw [show (v1.toInt - v2.toInt) = v3.toInt from by omega] at D
      exact jX.sub (jsb_c rfl (jsb_c rfl (jsb_c rfl jsb_n))) (ct_X7_isOutOfLife_r78d_39 hD hQ  a2 v3 h (jr_of rfl (by omega)) (jr_of rfl (by omega)) J Sm D EV)
    ·
      rw [if_neg (by omega)] at D
      refine x_aloadn (x := 78) rfl rfl ?_
      refine z_getR (N := 16) (b := 79) 7 7 rfl f_7_27 rfl J rfl 9991 ⟨rfl, rfl⟩ rfl ?_
      refine x_iloadn (x := a2) rfl rfl ?_
      refine z_ialdM (N := 600) (v := v9) rfl J rfl rfl (by omega) qv9 ?_
      refine x_iconst (v := 1) rfl ki_1 ?_
      refine x_icne (tgt := 24) rfl rfl (ti_ne rfl jk_1 ⟨fun c11 => ?_, fun c11 => ?_⟩)
      ·
        rw [if_neg (by omega)] at D
        refine x_iconst (v := 0) rfl ki_0 ?_
        refine x_zret rfl rfl (by decide) ?_
        show jX m_X7_isOutOfLife 2 0 0 28 [(3, .int v3), (0, .ref 78), (1, .int a1), (2, .int a2)] [.int 0] _ 0 0 _
        refine x_ifne (tgt := 39) rfl rfl (ti_ne jk_0 jk_0 (bn_f (by omega) ?_))
        refine x_aloadn (x := 78) rfl rfl ?_
        refine x_iloadn (x := a2) rfl rfl ?_
        refine x_inv (N := m_X7_isWoman) (As := [.int a2]) (b := 78) (st := []) (dx9 := 1) (mc := 0) (ms := 0) (host := "") 7 rfl t_X7_isWoman ⟨Or.inl q_7_98, i_X7_isWoman.1, i_X7_isWoman.2⟩ ⟨by decide, rfl⟩ (congrArg Prod.fst (J.1.1 78 (7, 16) rfl)) rfl (by decide) rfl rfl ⟨by decide, by decide⟩ (jC.of rfl k_X7_isWoman rfl ?_)
        show jX m_X7_isWoman 1 0 0 0 [(0, .ref 78), (1, .int a2)] [] _ 0 0 _
        refine x_aloadn (x := 78) rfl rfl ?_
        refine z_getR (N := 16) (b := 79) 7 7 rfl f_7_27 rfl J rfl 9991 ⟨rfl, rfl⟩ rfl ?_
        refine x_iloadn (x := a2) rfl rfl ?_
        refine z_ialdM (N := 600) (v := v9) rfl J rfl rfl (by omega) qv9 ?_
        refine x_iconst (v := 4) rfl ki_4 ?_
        refine x_iceq (tgt := 20) rfl rfl (ti_eq rfl jk_4 ⟨fun c12 => ?_, fun c12 => ?_⟩)
        ·
          rw [if_pos (by omega)] at D
          refine x_iconst (v := 1) rfl ki_1 ?_
          refine x_goto (tgt := 25) rfl rfl ?_
          refine x_zret rfl rfl (by decide) ?_
          show jX m_X7_isOutOfLife 2 0 0 36 [(3, .int v3), (0, .ref 78), (1, .int a1), (2, .int a2)] [.int 1] _ 0 0 _
          refine x_ifeq (tgt := 45) rfl rfl (ti_eq jk_1 jk_0 (br_f (by omega) ?_))
          try rw [show (v1.toInt - v2.toInt) = v3.toInt from by omega] at D
          exact jX.sub (jsb_c rfl (jsb_c rfl (jsb_c rfl jsb_n))) (ct_X7_isOutOfLife_r78d_39 hD hQ  a2 v3 h (jr_of rfl (by omega)) (jr_of rfl (by omega)) J Sm D EV)
        ·
          rw [if_neg (by omega)] at D
          refine x_aloadn (x := 78) rfl rfl ?_
          refine z_getR (N := 16) (b := 79) 7 7 rfl f_7_27 rfl J rfl 9991 ⟨rfl, rfl⟩ rfl ?_
          refine x_iloadn (x := a2) rfl rfl ?_
          refine z_ialdM (N := 600) (v := v9) rfl J rfl rfl (by omega) qv9 ?_
          refine x_iconst (v := 2) rfl ki_2 ?_
          refine x_icne (tgt := 24) rfl rfl (ti_ne rfl jk_2 ⟨fun c13 => ?_, fun c13 => ?_⟩)
          ·
            rw [if_neg (by omega)] at D
            refine x_iconst (v := 0) rfl ki_0 ?_
            refine x_zret rfl rfl (by decide) ?_
            show jX m_X7_isOutOfLife 2 0 0 36 [(3, .int v3), (0, .ref 78), (1, .int a1), (2, .int a2)] [.int 0] _ 0 0 _
            refine x_ifeq (tgt := 45) rfl rfl (ti_eq jk_0 jk_0 (br_t (by omega) ?_))
            refine x_iconst (v := 0) rfl ki_0 ?_
            try rw [show (v1.toInt - v2.toInt) = v3.toInt from by omega] at D
            exact jX.sub (jsb_c rfl (jsb_c rfl (jsb_c rfl jsb_n))) (ct_X7_isOutOfLife_r78d_200046 hD hQ  a2 v3 h (jr_of rfl (by omega)) (jr_of rfl (by omega)) J Sm D EV)
          ·
            rw [if_pos (by omega)] at D
            refine x_iconst (v := 1) rfl ki_1 ?_
            refine x_goto (tgt := 25) rfl rfl ?_
            refine x_zret rfl rfl (by decide) ?_
            show jX m_X7_isOutOfLife 2 0 0 36 [(3, .int v3), (0, .ref 78), (1, .int a1), (2, .int a2)] [.int 1] _ 0 0 _
            refine x_ifeq (tgt := 45) rfl rfl (ti_eq jk_1 jk_0 (br_f (by omega) ?_))
            try rw [show (v1.toInt - v2.toInt) = v3.toInt from by omega] at D
            exact jX.sub (jsb_c rfl (jsb_c rfl (jsb_c rfl jsb_n))) (ct_X7_isOutOfLife_r78d_39 hD hQ  a2 v3 h (jr_of rfl (by omega)) (jr_of rfl (by omega)) J Sm D EV)
      ·
        rw [if_pos (by omega)] at D
        refine x_iconst (v := 1) rfl ki_1 ?_
        refine x_goto (tgt := 25) rfl rfl ?_
        refine x_zret rfl rfl (by decide) ?_
        show jX m_X7_isOutOfLife 2 0 0 28 [(3, .int v3), (0, .ref 78), (1, .int a1), (2, .int a2)] [.int 1] _ 0 0 _
        refine x_ifne (tgt := 39) rfl rfl (ti_ne jk_1 jk_0 (bn_t (by omega) ?_))
        try rw [show (v1.toInt - v2.toInt) = v3.toInt from by omega] at D
        exact jX.sub (jsb_c rfl (jsb_c rfl (jsb_c rfl jsb_n))) (ct_X7_isOutOfLife_r78d_39 hD hQ  a2 v3 h (jr_of rfl (by omega)) (jr_of rfl (by omega)) J Sm D EV)
def fp_X7_reasonFor_r78d : jFp := []
set_option maxRecDepth 100000 in
set_option maxHeartbeats 4000000 in
theorem ct_X7_reasonFor_r78d_120 {Dy : jH → Prop} {h0 : jH} {Q : Option Value → jH → Prop} {dr : Int} (hD : jDk Dy) (hQ : ∀ (v : Int32) hx9, 0 ≤ v.toInt ∧ v.toInt ≤ 7 → jJ jSgX Dy hx9 → jSm fp_X7_reasonFor_r78d h0 hx9 → dr = v.toInt → vw hx9 = vw h0 → Q (some (.int v)) hx9) : ∀ (h : jH), jJ jSgX Dy h → jSm fp_X7_reasonFor_r78d h0 h → d_X7_reasonFor_r78d_120  (vw h) = dr → vw h = vw h0 → jX m_X7_reasonFor 3 0 0 120 [] [] h 0 0 Q := by
  intro  h    J Sm D EV
  unfold d_X7_reasonFor_r78d_120 at D
  refine x_iconst (v := 5) rfl ki_5 ?_
  refine x_iret rfl rfl ?_
  exact hQ _ _ (jr_of jk_5 (by omega)) J Sm (D.symm.trans (show 5 = (5 : Int32).toInt from by have := jk_5; omega)) EV
set_option maxRecDepth 100000 in
set_option maxHeartbeats 4000000 in
theorem ct_X7_reasonFor_r78d_140 {Dy : jH → Prop} {h0 : jH} {Q : Option Value → jH → Prop} {dr : Int} (hD : jDk Dy) (hQ : ∀ (v : Int32) hx9, 0 ≤ v.toInt ∧ v.toInt ≤ 7 → jJ jSgX Dy hx9 → jSm fp_X7_reasonFor_r78d h0 hx9 → dr = v.toInt → vw hx9 = vw h0 → Q (some (.int v)) hx9) : ∀ (h : jH), jJ jSgX Dy h → jSm fp_X7_reasonFor_r78d h0 h → d_X7_reasonFor_r78d_140  (vw h) = dr → vw h = vw h0 → jX m_X7_reasonFor 3 0 0 140 [] [] h 0 0 Q := by
  intro  h    J Sm D EV
  unfold d_X7_reasonFor_r78d_140 at D
  refine x_bipush (v := 6) rfl kb_6 ?_
  refine x_iret rfl rfl ?_
  exact hQ _ _ (jr_of jk_6 (by omega)) J Sm (D.symm.trans (show 6 = (6 : Int32).toInt from by have := jk_6; omega)) EV
set_option maxRecDepth 100000 in
set_option maxHeartbeats 4000000 in
theorem ct_X7_reasonFor_r78d_200167 {Dy : jH → Prop} {h0 : jH} {Q : Option Value → jH → Prop} {dr : Int} (hD : jDk Dy) (hQ : ∀ (v : Int32) hx9, 0 ≤ v.toInt ∧ v.toInt ≤ 7 → jJ jSgX Dy hx9 → jSm fp_X7_reasonFor_r78d h0 hx9 → dr = v.toInt → vw hx9 = vw h0 → Q (some (.int v)) hx9) : ∀ (h : jH), jJ jSgX Dy h → jSm fp_X7_reasonFor_r78d h0 h → d_X7_reasonFor_r78d_200167  (vw h) = dr → vw h = vw h0 → jX m_X7_reasonFor 3 0 0 167 [] [.int 0] h 0 0 Q := by
  intro  h    J Sm D EV
  unfold d_X7_reasonFor_r78d_200167 at D
  refine x_iret rfl rfl ?_
  exact hQ _ _ (jr_of jk_0 (by omega)) J Sm (D.symm.trans (show 0 = (0 : Int32).toInt from by have := jk_0; omega)) EV
set_option maxRecDepth 100000 in
set_option maxHeartbeats 4000000 in
theorem ct_X7_reasonFor_r78d_900167 {Dy : jH → Prop} {h0 : jH} {Q : Option Value → jH → Prop} {dr : Int} (hD : jDk Dy) (hQ : ∀ (v : Int32) hx9, 0 ≤ v.toInt ∧ v.toInt ≤ 7 → jJ jSgX Dy hx9 → jSm fp_X7_reasonFor_r78d h0 hx9 → dr = v.toInt → vw hx9 = vw h0 → Q (some (.int v)) hx9) : ∀ (h : jH), jJ jSgX Dy h → jSm fp_X7_reasonFor_r78d h0 h → d_X7_reasonFor_r78d_900167  (vw h) = dr → vw h = vw h0 → jX m_X7_reasonFor 3 0 0 167 [] [.int 7] h 0 0 Q := by
  intro  h    J Sm D EV
  unfold d_X7_reasonFor_r78d_900167 at D
  refine x_iret rfl rfl ?_
  exact hQ _ _ (jr_of jk_7 (by omega)) J Sm (D.symm.trans (show 7 = (7 : Int32).toInt from by have := jk_7; omega)) EV
set_option maxRecDepth 100000 in
set_option maxHeartbeats 4000000 in
theorem ct_X7_reasonFor_r78d_161 {Dy : jH → Prop} {h0 : jH} {Q : Option Value → jH → Prop} {dr : Int} (hD : jDk Dy) (hQ : ∀ (v : Int32) hx9, 0 ≤ v.toInt ∧ v.toInt ≤ 7 → jJ jSgX Dy hx9 → jSm fp_X7_reasonFor_r78d h0 hx9 → dr = v.toInt → vw hx9 = vw h0 → Q (some (.int v)) hx9) : ∀ (h : jH), jJ jSgX Dy h → jSm fp_X7_reasonFor_r78d h0 h → d_X7_reasonFor_r78d_161  (vw h) = dr → vw h = vw h0 → jX m_X7_reasonFor 3 0 0 161 [] [] h 0 0 Q := by
  intro  h    J Sm D EV
  unfold d_X7_reasonFor_r78d_161 at D
  refine x_bipush (v := 7) rfl kb_7 ?_
  refine x_goto (tgt := 167) rfl rfl ?_
  exact jX.sub jsb_n (ct_X7_reasonFor_r78d_900167 hD hQ  h J Sm D EV)
set_option maxRecDepth 100000 in
set_option maxHeartbeats 4000000 in
theorem ct_X7_reasonFor_r78d_122 {Dy : jH → Prop} {h0 : jH} {Q : Option Value → jH → Prop} {dr : Int} (hD : jDk Dy) (hQ : ∀ (v : Int32) hx9, 0 ≤ v.toInt ∧ v.toInt ≤ 7 → jJ jSgX Dy hx9 → jSm fp_X7_reasonFor_r78d h0 hx9 → dr = v.toInt → vw hx9 = vw h0 → Q (some (.int v)) hx9) : ∀ (l1 : Int32) (l2 : Int32) (h : jH), 0 ≤ l1.toInt ∧ l1.toInt ≤ 599 → 0 ≤ l2.toInt ∧ l2.toInt ≤ 599 → jJ jSgX Dy h → jSm fp_X7_reasonFor_r78d h0 h → d_X7_reasonFor_r78d_122  l1.toInt l2.toInt (vw h) = dr → vw h = vw h0 → jX m_X7_reasonFor 3 0 0 122 [(0, .ref 78), (1, .int l1), (2, .int l2)] [] h 0 0 Q := by
  intro l1 l2 h y0 y1   J Sm D EV
  unfold d_X7_reasonFor_r78d_122 at D
  refine x_aloadn (x := 78) rfl rfl ?_
  refine x_iloadn (x := l1) rfl rfl ?_
  refine x_iloadn (x := l2) rfl rfl ?_
  refine x_inv (N := m_X7_isOutOfLife) (As := [.int l1, .int l2]) (b := 78) (st := []) (dx9 := 2) (mc := 0) (ms := 0) (host := "") 7 rfl t_X7_isOutOfLife ⟨Or.inl q_7_107, i_X7_isOutOfLife.1, i_X7_isOutOfLife.2⟩ ⟨by decide, rfl⟩ (congrArg Prod.fst (J.1.1 78 (7, 16) rfl)) rfl (by decide) rfl rfl ⟨by decide, by decide⟩ (sf_X7_isOutOfLife_r78d (jr_of rfl (by omega)) (jr_of rfl (by omega)) hD J rfl  (fun v4 h ev4 J S1 X2 X3 => ?_))
  have Sm := jSm_tr rfl Sm S1
  try rw [X2] at D
  try rw [← X3] at D
  have EV := X3.trans EV
  show jX m_X7_reasonFor 3 0 0 128 [(0, .ref 78), (1, .int l1), (2, .int l2)] [.int v4] _ 0 0 _
  refine x_ifne (tgt := 140) rfl rfl (ti_ne rfl jk_0 ⟨fun c5 => ?_, fun c5 => ?_⟩)
  ·
    rw [if_neg (by omega)] at D
    exact jX.sub jsb_n (ct_X7_reasonFor_r78d_140 hD hQ  h J Sm D EV)
  ·
    rw [if_pos (by omega)] at D
    refine x_aloadn (x := 78) rfl rfl ?_
    refine x_iloadn (x := l2) rfl rfl ?_
    refine x_iloadn (x := l1) rfl rfl ?_
    refine x_inv (N := m_X7_isOutOfLife) (As := [.int l2, .int l1]) (b := 78) (st := []) (dx9 := 2) (mc := 0) (ms := 0) (host := "") 7 rfl t_X7_isOutOfLife ⟨Or.inl q_7_107, i_X7_isOutOfLife.1, i_X7_isOutOfLife.2⟩ ⟨by decide, rfl⟩ (congrArg Prod.fst (J.1.1 78 (7, 16) rfl)) rfl (by decide) rfl rfl ⟨by decide, by decide⟩ (sf_X7_isOutOfLife_r78d (jr_of rfl (by omega)) (jr_of rfl (by omega)) hD J rfl  (fun v9 h ev9 J S6 X7 X8 => ?_))
    have Sm := jSm_tr rfl Sm S6
    try rw [X7] at D
    try rw [← X8] at D
    have EV := X8.trans EV
    show jX m_X7_reasonFor 3 0 0 137 [(0, .ref 78), (1, .int l1), (2, .int l2)] [.int v9] _ 0 0 _
    refine x_ifeq (tgt := 143) rfl rfl (ti_eq rfl jk_0 ⟨fun c10 => ?_, fun c10 => ?_⟩)
    ·
      rw [if_pos (by omega)] at D
      refine x_aloadn (x := 78) rfl rfl ?_
      refine x_iloadn (x := l1) rfl rfl ?_
      refine x_iloadn (x := l2) rfl rfl ?_
      refine x_inv (N := m_X7_isOfOtherAge) (As := [.int l1, .int l2]) (b := 78) (st := []) (dx9 := 2) (mc := 0) (ms := 0) (host := "") 7 rfl t_X7_isOfOtherAge ⟨Or.inl q_7_110, i_X7_isOfOtherAge.1, i_X7_isOfOtherAge.2⟩ ⟨by decide, rfl⟩ (congrArg Prod.fst (J.1.1 78 (7, 16) rfl)) rfl (by decide) rfl rfl ⟨by decide, by decide⟩ (jC.of rfl k_X7_isOfOtherAge rfl ?_)
      show jX m_X7_isOfOtherAge 2 0 0 0 [(0, .ref 78), (1, .int l1), (2, .int l2)] [] _ 0 0 _
      refine x_aloadn (x := 78) rfl rfl ?_
      refine x_iloadn (x := l1) rfl rfl ?_
      refine x_iloadn (x := l2) rfl rfl ?_
      refine x_inv (N := m_X7_isWithAge) (As := [.int l1, .int l2]) (b := 78) (st := []) (dx9 := 1) (mc := 0) (ms := 0) (host := "") 7 rfl t_X7_isWithAge ⟨Or.inl q_7_116, i_X7_isWithAge.1, i_X7_isWithAge.2⟩ ⟨by decide, rfl⟩ (congrArg Prod.fst (J.1.1 78 (7, 16) rfl)) rfl (by decide) rfl rfl ⟨by decide, by decide⟩ (jC.of rfl k_X7_isWithAge rfl ?_)
      show jX m_X7_isWithAge 1 0 0 0 [(0, .ref 78), (1, .int l1), (2, .int l2)] [] _ 0 0 _
      refine x_aloadn (x := 78) rfl rfl ?_
      refine z_getR (N := 16) (b := 79) 7 7 rfl f_7_27 rfl J rfl 9991 ⟨rfl, rfl⟩ rfl ?_
      refine x_iloadn (x := l1) rfl rfl ?_
      refine z_iald (N := 600) rfl J rfl sg_79_0_600_1_0_1 rfl (by omega) (fun v11 qv11 ev11 => ?_)
      try rw [vrd qv11 (show l1.toInt = l1.toInt from by omega)] at D
      refine x_ifne (tgt := 33) rfl rfl (ti_ne rfl jk_0 ⟨fun c12 => ?_, fun c12 => ?_⟩)
      ·
        rw [if_neg (by omega)] at D
        refine x_iconst (v := 0) rfl ki_0 ?_
        refine x_zret rfl rfl (by decide) ?_
        show jX m_X7_isOfOtherAge 2 0 0 6 [(0, .ref 78), (1, .int l1), (2, .int l2)] [.int 0] _ 0 0 _
        refine x_ifne (tgt := 11) rfl rfl (ti_ne jk_0 jk_0 (bn_f (by omega) ?_))
        refine x_iconst (v := 0) rfl ki_0 ?_
        refine x_zret rfl rfl (by decide) ?_
        show jX m_X7_reasonFor 3 0 0 149 [(0, .ref 78), (1, .int l1), (2, .int l2)] [.int 0] _ 0 0 _
        refine x_ifne (tgt := 161) rfl rfl (ti_ne jk_0 jk_0 (bn_f (by omega) ?_))
        refine x_aloadn (x := 78) rfl rfl ?_
        refine x_iloadn (x := l2) rfl rfl ?_
        refine x_iloadn (x := l1) rfl rfl ?_
        refine x_inv (N := m_X7_isOfOtherAge) (As := [.int l2, .int l1]) (b := 78) (st := []) (dx9 := 2) (mc := 0) (ms := 0) (host := "") 7 rfl t_X7_isOfOtherAge ⟨Or.inl q_7_110, i_X7_isOfOtherAge.1, i_X7_isOfOtherAge.2⟩ ⟨by decide, rfl⟩ (congrArg Prod.fst (J.1.1 78 (7, 16) rfl)) rfl (by decide) rfl rfl ⟨by decide, by decide⟩ (jC.of rfl k_X7_isOfOtherAge rfl ?_)
        show jX m_X7_isOfOtherAge 2 0 0 0 [(0, .ref 78), (1, .int l2), (2, .int l1)] [] _ 0 0 _
        refine x_aloadn (x := 78) rfl rfl ?_
        refine x_iloadn (x := l2) rfl rfl ?_
        refine x_iloadn (x := l1) rfl rfl ?_
        refine x_inv (N := m_X7_isWithAge) (As := [.int l2, .int l1]) (b := 78) (st := []) (dx9 := 1) (mc := 0) (ms := 0) (host := "") 7 rfl t_X7_isWithAge ⟨Or.inl q_7_116, i_X7_isWithAge.1, i_X7_isWithAge.2⟩ ⟨by decide, rfl⟩ (congrArg Prod.fst (J.1.1 78 (7, 16) rfl)) rfl (by decide) rfl rfl ⟨by decide, by decide⟩ (jC.of rfl k_X7_isWithAge rfl ?_)
        show jX m_X7_isWithAge 1 0 0 0 [(0, .ref 78), (1, .int l2), (2, .int l1)] [] _ 0 0 _
        refine x_aloadn (x := 78) rfl rfl ?_
        refine z_getR (N := 16) (b := 79) 7 7 rfl f_7_27 rfl J rfl 9991 ⟨rfl, rfl⟩ rfl ?_
        refine x_iloadn (x := l2) rfl rfl ?_
        refine z_iald (N := 600) rfl J rfl sg_79_0_600_1_0_1 rfl (by omega) (fun v13 qv13 ev13 => ?_)
        try rw [vrd qv13 (show l2.toInt = l2.toInt from by omega)] at D
        refine x_ifne (tgt := 33) rfl rfl (ti_ne rfl jk_0 ⟨fun c14 => ?_, fun c14 => ?_⟩)
        ·
          rw [if_neg (by omega)] at D
          refine x_iconst (v := 0) rfl ki_0 ?_
          refine x_zret rfl rfl (by decide) ?_
          show jX m_X7_isOfOtherAge 2 0 0 6 [(0, .ref 78), (1, .int l2), (2, .int l1)] [.int 0] _ 0 0 _
          refine x_ifne (tgt := 11) rfl rfl (ti_ne jk_0 jk_0 (bn_f (by omega) ?_))
          refine x_iconst (v := 0) rfl ki_0 ?_
          refine x_zret rfl rfl (by decide) ?_
          show jX m_X7_reasonFor 3 0 0 158 [(0, .ref 78), (1, .int l1), (2, .int l2)] [.int 0] _ 0 0 _
          refine x_ifeq (tgt := 166) rfl rfl (ti_eq jk_0 jk_0 (br_t (by omega) ?_))
          refine x_iconst (v := 0) rfl ki_0 ?_
          exact jX.sub jsb_n (ct_X7_reasonFor_r78d_200167 hD hQ  h J Sm D EV)
        ·
          rw [if_pos (by omega)] at D
          refine x_aloadn (x := 78) rfl rfl ?_
          refine z_getR (N := 16) (b := 79) 7 7 rfl f_7_27 rfl J rfl 9991 ⟨rfl, rfl⟩ rfl ?_
          refine x_iloadn (x := l1) rfl rfl ?_
          refine z_ialdM (N := 600) (v := v11) rfl J rfl rfl (by omega) qv11 ?_
          refine x_iconst (v := 5) rfl ki_5 ?_
          refine x_icne (tgt := 33) rfl rfl (ti_ne rfl jk_5 ⟨fun c15 => ?_, fun c15 => ?_⟩)
          ·
            rw [if_neg (by omega)] at D
            refine x_iconst (v := 0) rfl ki_0 ?_
            refine x_zret rfl rfl (by decide) ?_
            show jX m_X7_isOfOtherAge 2 0 0 6 [(0, .ref 78), (1, .int l2), (2, .int l1)] [.int 0] _ 0 0 _
            refine x_ifne (tgt := 11) rfl rfl (ti_ne jk_0 jk_0 (bn_f (by omega) ?_))
            refine x_iconst (v := 0) rfl ki_0 ?_
            refine x_zret rfl rfl (by decide) ?_
            show jX m_X7_reasonFor 3 0 0 158 [(0, .ref 78), (1, .int l1), (2, .int l2)] [.int 0] _ 0 0 _
            refine x_ifeq (tgt := 166) rfl rfl (ti_eq jk_0 jk_0 (br_t (by omega) ?_))
            refine x_iconst (v := 0) rfl ki_0 ?_
            exact jX.sub jsb_n (ct_X7_reasonFor_r78d_200167 hD hQ  h J Sm D EV)
          ·
            rw [if_pos (by omega)] at D
            refine x_aloadn (x := 78) rfl rfl ?_
            refine z_getR (N := 16) (b := 81) 7 9 rfl f_7_34 rfl J rfl 9993 ⟨rfl, rfl⟩ rfl ?_
            refine x_iloadn (x := l1) rfl rfl ?_
            refine z_iald0 (N := 600) rfl J rfl rfl (by omega) (fun v16 qv16 => ?_)
            have ev16 := jfull v16
            try rw [vrd qv16 (show l1.toInt = l1.toInt from by omega)] at D
            refine x_iconst (v := (-1)) rfl ki_m1 ?_
            refine x_iceq (tgt := 33) rfl rfl (ti_eq rfl jk_m1 ⟨fun c17 => ?_, fun c17 => ?_⟩)
            ·
              rw [if_pos (by omega)] at D
              refine x_iconst (v := 0) rfl ki_0 ?_
              refine x_zret rfl rfl (by decide) ?_
              show jX m_X7_isOfOtherAge 2 0 0 6 [(0, .ref 78), (1, .int l2), (2, .int l1)] [.int 0] _ 0 0 _
              refine x_ifne (tgt := 11) rfl rfl (ti_ne jk_0 jk_0 (bn_f (by omega) ?_))
              refine x_iconst (v := 0) rfl ki_0 ?_
              refine x_zret rfl rfl (by decide) ?_
              show jX m_X7_reasonFor 3 0 0 158 [(0, .ref 78), (1, .int l1), (2, .int l2)] [.int 0] _ 0 0 _
              refine x_ifeq (tgt := 166) rfl rfl (ti_eq jk_0 jk_0 (br_t (by omega) ?_))
              refine x_iconst (v := 0) rfl ki_0 ?_
              exact jX.sub jsb_n (ct_X7_reasonFor_r78d_200167 hD hQ  h J Sm D EV)
            ·
              rw [if_neg (by omega)] at D
              refine x_iconst (v := 1) rfl ki_1 ?_
              refine x_goto (tgt := 34) rfl rfl ?_
              refine x_zret rfl rfl (by decide) ?_
              show jX m_X7_isOfOtherAge 2 0 0 6 [(0, .ref 78), (1, .int l2), (2, .int l1)] [.int 1] _ 0 0 _
              refine x_ifne (tgt := 11) rfl rfl (ti_ne jk_1 jk_0 (bn_t (by omega) ?_))
              refine x_aloadn (x := 78) rfl rfl ?_
              refine z_getR (N := 16) (b := 80) 7 8 rfl f_7_31 rfl J rfl 9992 ⟨rfl, rfl⟩ rfl ?_
              refine x_iloadn (x := l1) rfl rfl ?_
              refine z_iald (N := 600) rfl J rfl sg_80_0_600_1_0_1 rfl (by omega) (fun v18 qv18 ev18 => ?_)
              try rw [vrd qv18 (show l1.toInt = l1.toInt from by omega)] at D
              refine x_sipush (v := 366) rfl ks_366 ?_
              refine z_idiv rfl rfl jk_366 (by omega) (by omega) (fun v19 ev19 => ?_)
              refine x_aloadn (x := 78) rfl rfl ?_
              refine z_getR (N := 16) (b := 80) 7 8 rfl f_7_31 rfl J rfl 9992 ⟨rfl, rfl⟩ rfl ?_
              refine x_iloadn (x := l2) rfl rfl ?_
              refine z_iald (N := 600) rfl J rfl sg_80_0_600_1_0_1 rfl (by omega) (fun v20 qv20 ev20 => ?_)
              try rw [vrd qv20 (show l2.toInt = l2.toInt from by omega)] at D
              refine x_sipush (v := 366) rfl ks_366 ?_
              refine z_idiv rfl rfl jk_366 (by omega) (by omega) (fun v21 ev21 => ?_)
              refine z_isub rfl rfl rfl (by omega) (fun v22 ev22 => ?_)
              refine x_istoren (lsx9 := [(3, .int v22), (0, .ref 78), (1, .int l2), (2, .int l1)]) rfl rfl rfl ?_
              refine x_iloadn (x := v22) rfl rfl ?_
              refine x_aloadn (x := 78) rfl rfl ?_
              refine z_getR (N := 16) (b := 81) 7 9 rfl f_7_34 rfl J rfl 9993 ⟨rfl, rfl⟩ rfl ?_
              refine x_iloadn (x := l1) rfl rfl ?_
              refine z_ialdM (N := 600) (v := v16) rfl J rfl rfl (by omega) qv16 ?_
              refine z_isubW rfl rfl rfl (fun v23 ev23 => ?_)
              have fv23 := jfull v23
              try rw [show ((v18.toInt / 366) - (v20.toInt / 366)) = v22.toInt from by omega] at D
              try rw [← ev23] at D
              refine z_mabsD rfl q_7_119 (by decide) rfl rfl (fun v24 ev24 => ?_)
              have fv24 := jfull v24
              try rw [← ev24] at D
              refine x_aloadn (x := 78) rfl rfl ?_
              refine z_getI (N := 16) 7 6 rfl f_7_24 rfl J rfl sg_78_6_7_1_0_1 (fun v25 qv25 ev25 => ?_)
              try rw [vrf qv25] at D
              refine x_icle (tgt := 55) rfl rfl (ti_le rfl rfl ⟨fun c26 => ?_, fun c26 => ?_⟩)
              ·
                rw [if_pos (by omega)] at D
                refine x_iconst (v := 0) rfl ki_0 ?_
                refine x_zret rfl rfl (by decide) ?_
                show jX m_X7_reasonFor 3 0 0 158 [(0, .ref 78), (1, .int l1), (2, .int l2)] [.int 0] _ 0 0 _
                refine x_ifeq (tgt := 166) rfl rfl (ti_eq jk_0 jk_0 (br_t (by omega) ?_))
                refine x_iconst (v := 0) rfl ki_0 ?_
                exact jX.sub jsb_n (ct_X7_reasonFor_r78d_200167 hD hQ  h J Sm D EV)
              ·
                rw [if_neg (by omega)] at D
                refine x_iconst (v := 1) rfl ki_1 ?_
                refine x_goto (tgt := 56) rfl rfl ?_
                refine x_zret rfl rfl (by decide) ?_
                show jX m_X7_reasonFor 3 0 0 158 [(0, .ref 78), (1, .int l1), (2, .int l2)] [.int 1] _ 0 0 _
                refine x_ifeq (tgt := 166) rfl rfl (ti_eq jk_1 jk_0 (br_f (by omega) ?_))
                exact jX.sub jsb_n (ct_X7_reasonFor_r78d_161 hD hQ  h J Sm D EV)
      ·
        rw [if_pos (by omega)] at D
        refine x_aloadn (x := 78) rfl rfl ?_
        refine z_getR (N := 16) (b := 79) 7 7 rfl f_7_27 rfl J rfl 9991 ⟨rfl, rfl⟩ rfl ?_
        refine x_iloadn (x := l2) rfl rfl ?_
        refine z_iald (N := 600) rfl J rfl sg_79_0_600_1_0_1 rfl (by omega) (fun v27 qv27 ev27 => ?_)
        try rw [vrd qv27 (show l2.toInt = l2.toInt from by omega)] at D
        refine x_iconst (v := 5) rfl ki_5 ?_
        refine x_icne (tgt := 33) rfl rfl (ti_ne rfl jk_5 ⟨fun c28 => ?_, fun c28 => ?_⟩)
        ·
          rw [if_neg (by omega)] at D
          refine x_iconst (v := 0) rfl ki_0 ?_
          refine x_zret rfl rfl (by decide) ?_
          show jX m_X7_isOfOtherAge 2 0 0 6 [(0, .ref 78), (1, .int l1), (2, .int l2)] [.int 0] _ 0 0 _
          refine x_ifne (tgt := 11) rfl rfl (ti_ne jk_0 jk_0 (bn_f (by omega) ?_))
          refine x_iconst (v := 0) rfl ki_0 ?_
          refine x_zret rfl rfl (by decide) ?_
          show jX m_X7_reasonFor 3 0 0 149 [(0, .ref 78), (1, .int l1), (2, .int l2)] [.int 0] _ 0 0 _
          refine x_ifne (tgt := 161) rfl rfl (ti_ne jk_0 jk_0 (bn_f (by omega) ?_))
          refine x_aloadn (x := 78) rfl rfl ?_
          refine x_iloadn (x := l2) rfl rfl ?_
          refine x_iloadn (x := l1) rfl rfl ?_
          refine x_inv (N := m_X7_isOfOtherAge) (As := [.int l2, .int l1]) (b := 78) (st := []) (dx9 := 2) (mc := 0) (ms := 0) (host := "") 7 rfl t_X7_isOfOtherAge ⟨Or.inl q_7_110, i_X7_isOfOtherAge.1, i_X7_isOfOtherAge.2⟩ ⟨by decide, rfl⟩ (congrArg Prod.fst (J.1.1 78 (7, 16) rfl)) rfl (by decide) rfl rfl ⟨by decide, by decide⟩ (jC.of rfl k_X7_isOfOtherAge rfl ?_)
          show jX m_X7_isOfOtherAge 2 0 0 0 [(0, .ref 78), (1, .int l2), (2, .int l1)] [] _ 0 0 _
          refine x_aloadn (x := 78) rfl rfl ?_
          refine x_iloadn (x := l2) rfl rfl ?_
          refine x_iloadn (x := l1) rfl rfl ?_
          refine x_inv (N := m_X7_isWithAge) (As := [.int l2, .int l1]) (b := 78) (st := []) (dx9 := 1) (mc := 0) (ms := 0) (host := "") 7 rfl t_X7_isWithAge ⟨Or.inl q_7_116, i_X7_isWithAge.1, i_X7_isWithAge.2⟩ ⟨by decide, rfl⟩ (congrArg Prod.fst (J.1.1 78 (7, 16) rfl)) rfl (by decide) rfl rfl ⟨by decide, by decide⟩ (jC.of rfl k_X7_isWithAge rfl ?_)
          show jX m_X7_isWithAge 1 0 0 0 [(0, .ref 78), (1, .int l2), (2, .int l1)] [] _ 0 0 _
          refine x_aloadn (x := 78) rfl rfl ?_
          refine z_getR (N := 16) (b := 79) 7 7 rfl f_7_27 rfl J rfl 9991 ⟨rfl, rfl⟩ rfl ?_
          refine x_iloadn (x := l2) rfl rfl ?_
          refine z_ialdM (N := 600) (v := v27) rfl J rfl rfl (by omega) qv27 ?_
          refine x_ifne (tgt := 33) rfl rfl (ti_ne rfl jk_0 ⟨fun c29 => ?_, fun c29 => ?_⟩)
          ·
            rw [if_neg (by omega)] at D
            refine x_iconst (v := 0) rfl ki_0 ?_
            refine x_zret rfl rfl (by decide) ?_
            show jX m_X7_isOfOtherAge 2 0 0 6 [(0, .ref 78), (1, .int l2), (2, .int l1)] [.int 0] _ 0 0 _
            refine x_ifne (tgt := 11) rfl rfl (ti_ne jk_0 jk_0 (bn_f (by omega) ?_))
            refine x_iconst (v := 0) rfl ki_0 ?_
            refine x_zret rfl rfl (by decide) ?_
            show jX m_X7_reasonFor 3 0 0 158 [(0, .ref 78), (1, .int l1), (2, .int l2)] [.int 0] _ 0 0 _
            refine x_ifeq (tgt := 166) rfl rfl (ti_eq jk_0 jk_0 (br_t (by omega) ?_))
            refine x_iconst (v := 0) rfl ki_0 ?_
            exact jX.sub jsb_n (ct_X7_reasonFor_r78d_200167 hD hQ  h J Sm D EV)
          ·
            rw [if_pos (by omega)] at D
            refine x_aloadn (x := 78) rfl rfl ?_
            refine z_getR (N := 16) (b := 79) 7 7 rfl f_7_27 rfl J rfl 9991 ⟨rfl, rfl⟩ rfl ?_
            refine x_iloadn (x := l1) rfl rfl ?_
            refine z_ialdM (N := 600) (v := v11) rfl J rfl rfl (by omega) qv11 ?_
            refine x_iconst (v := 5) rfl ki_5 ?_
            refine x_icne (tgt := 33) rfl rfl (ti_ne rfl jk_5 (bn_t (by omega) ?_))
            refine x_iconst (v := 0) rfl ki_0 ?_
            refine x_zret rfl rfl (by decide) ?_
            show jX m_X7_isOfOtherAge 2 0 0 6 [(0, .ref 78), (1, .int l2), (2, .int l1)] [.int 0] _ 0 0 _
            refine x_ifne (tgt := 11) rfl rfl (ti_ne jk_0 jk_0 (bn_f (by omega) ?_))
            refine x_iconst (v := 0) rfl ki_0 ?_
            refine x_zret rfl rfl (by decide) ?_
            show jX m_X7_reasonFor 3 0 0 158 [(0, .ref 78), (1, .int l1), (2, .int l2)] [.int 0] _ 0 0 _
            refine x_ifeq (tgt := 166) rfl rfl (ti_eq jk_0 jk_0 (br_t (by omega) ?_))
            refine x_iconst (v := 0) rfl ki_0 ?_
            exact jX.sub jsb_n (ct_X7_reasonFor_r78d_200167 hD hQ  h J Sm D EV)
        ·
          rw [if_pos (by omega)] at D
          refine x_aloadn (x := 78) rfl rfl ?_
          refine z_getR (N := 16) (b := 81) 7 9 rfl f_7_34 rfl J rfl 9993 ⟨rfl, rfl⟩ rfl ?_
          refine x_iloadn (x := l2) rfl rfl ?_
          refine z_iald0 (N := 600) rfl J rfl rfl (by omega) (fun v30 qv30 => ?_)
          have ev30 := jfull v30
          try rw [vrd qv30 (show l2.toInt = l2.toInt from by omega)] at D
          refine x_iconst (v := (-1)) rfl ki_m1 ?_
          refine x_iceq (tgt := 33) rfl rfl (ti_eq rfl jk_m1 ⟨fun c31 => ?_, fun c31 => ?_⟩)
          ·
            rw [if_pos (by omega)] at D
            refine x_iconst (v := 0) rfl ki_0 ?_
            refine x_zret rfl rfl (by decide) ?_
            show jX m_X7_isOfOtherAge 2 0 0 6 [(0, .ref 78), (1, .int l1), (2, .int l2)] [.int 0] _ 0 0 _
            refine x_ifne (tgt := 11) rfl rfl (ti_ne jk_0 jk_0 (bn_f (by omega) ?_))
            refine x_iconst (v := 0) rfl ki_0 ?_
            refine x_zret rfl rfl (by decide) ?_
            show jX m_X7_reasonFor 3 0 0 149 [(0, .ref 78), (1, .int l1), (2, .int l2)] [.int 0] _ 0 0 _
            refine x_ifne (tgt := 161) rfl rfl (ti_ne jk_0 jk_0 (bn_f (by omega) ?_))
            refine x_aloadn (x := 78) rfl rfl ?_
            refine x_iloadn (x := l2) rfl rfl ?_
            refine x_iloadn (x := l1) rfl rfl ?_
            refine x_inv (N := m_X7_isOfOtherAge) (As := [.int l2, .int l1]) (b := 78) (st := []) (dx9 := 2) (mc := 0) (ms := 0) (host := "") 7 rfl t_X7_isOfOtherAge ⟨Or.inl q_7_110, i_X7_isOfOtherAge.1, i_X7_isOfOtherAge.2⟩ ⟨by decide, rfl⟩ (congrArg Prod.fst (J.1.1 78 (7, 16) rfl)) rfl (by decide) rfl rfl ⟨by decide, by decide⟩ (jC.of rfl k_X7_isOfOtherAge rfl ?_)
            show jX m_X7_isOfOtherAge 2 0 0 0 [(0, .ref 78), (1, .int l2), (2, .int l1)] [] _ 0 0 _
            refine x_aloadn (x := 78) rfl rfl ?_
            refine x_iloadn (x := l2) rfl rfl ?_
            refine x_iloadn (x := l1) rfl rfl ?_
            refine x_inv (N := m_X7_isWithAge) (As := [.int l2, .int l1]) (b := 78) (st := []) (dx9 := 1) (mc := 0) (ms := 0) (host := "") 7 rfl t_X7_isWithAge ⟨Or.inl q_7_116, i_X7_isWithAge.1, i_X7_isWithAge.2⟩ ⟨by decide, rfl⟩ (congrArg Prod.fst (J.1.1 78 (7, 16) rfl)) rfl (by decide) rfl rfl ⟨by decide, by decide⟩ (jC.of rfl k_X7_isWithAge rfl ?_)
            show jX m_X7_isWithAge 1 0 0 0 [(0, .ref 78), (1, .int l2), (2, .int l1)] [] _ 0 0 _
            refine x_aloadn (x := 78) rfl rfl ?_
            refine z_getR (N := 16) (b := 79) 7 7 rfl f_7_27 rfl J rfl 9991 ⟨rfl, rfl⟩ rfl ?_
            refine x_iloadn (x := l2) rfl rfl ?_
            refine z_ialdM (N := 600) (v := v27) rfl J rfl rfl (by omega) qv27 ?_
            refine x_ifne (tgt := 33) rfl rfl (ti_ne rfl jk_0 (bn_t (by omega) ?_))
            refine x_iconst (v := 0) rfl ki_0 ?_
            refine x_zret rfl rfl (by decide) ?_
            show jX m_X7_isOfOtherAge 2 0 0 6 [(0, .ref 78), (1, .int l2), (2, .int l1)] [.int 0] _ 0 0 _
            refine x_ifne (tgt := 11) rfl rfl (ti_ne jk_0 jk_0 (bn_f (by omega) ?_))
            refine x_iconst (v := 0) rfl ki_0 ?_
            refine x_zret rfl rfl (by decide) ?_
            show jX m_X7_reasonFor 3 0 0 158 [(0, .ref 78), (1, .int l1), (2, .int l2)] [.int 0] _ 0 0 _
            refine x_ifeq (tgt := 166) rfl rfl (ti_eq jk_0 jk_0 (br_t (by omega) ?_))
            refine x_iconst (v := 0) rfl ki_0 ?_
            exact jX.sub jsb_n (ct_X7_reasonFor_r78d_200167 hD hQ  h J Sm D EV)
          ·
            rw [if_neg (by omega)] at D
            refine x_iconst (v := 1) rfl ki_1 ?_
            refine x_goto (tgt := 34) rfl rfl ?_
            refine x_zret rfl rfl (by decide) ?_
            show jX m_X7_isOfOtherAge 2 0 0 6 [(0, .ref 78), (1, .int l1), (2, .int l2)] [.int 1] _ 0 0 _
            refine x_ifne (tgt := 11) rfl rfl (ti_ne jk_1 jk_0 (bn_t (by omega) ?_))
            refine x_aloadn (x := 78) rfl rfl ?_
            refine z_getR (N := 16) (b := 80) 7 8 rfl f_7_31 rfl J rfl 9992 ⟨rfl, rfl⟩ rfl ?_
            refine x_iloadn (x := l2) rfl rfl ?_
            refine z_iald (N := 600) rfl J rfl sg_80_0_600_1_0_1 rfl (by omega) (fun v32 qv32 ev32 => ?_)
            try rw [vrd qv32 (show l2.toInt = l2.toInt from by omega)] at D
            refine x_sipush (v := 366) rfl ks_366 ?_
            refine z_idiv rfl rfl jk_366 (by omega) (by omega) (fun v33 ev33 => ?_)
            refine x_aloadn (x := 78) rfl rfl ?_
            refine z_getR (N := 16) (b := 80) 7 8 rfl f_7_31 rfl J rfl 9992 ⟨rfl, rfl⟩ rfl ?_
            refine x_iloadn (x := l1) rfl rfl ?_
            refine z_iald (N := 600) rfl J rfl sg_80_0_600_1_0_1 rfl (by omega) (fun v34 qv34 ev34 => ?_)
            try rw [vrd qv34 (show l1.toInt = l1.toInt from by omega)] at D
            refine x_sipush (v := 366) rfl ks_366 ?_
            refine z_idiv rfl rfl jk_366 (by omega) (by omega) (fun v35 ev35 => ?_)
            refine z_isub rfl rfl rfl (by omega) (fun v36 ev36 => ?_)
            refine x_istoren (lsx9 := [(3, .int v36), (0, .ref 78), (1, .int l1), (2, .int l2)]) rfl rfl rfl ?_
            refine x_iloadn (x := v36) rfl rfl ?_
            refine x_aloadn (x := 78) rfl rfl ?_
            refine z_getR (N := 16) (b := 81) 7 9 rfl f_7_34 rfl J rfl 9993 ⟨rfl, rfl⟩ rfl ?_
            refine x_iloadn (x := l2) rfl rfl ?_
            refine z_ialdM (N := 600) (v := v30) rfl J rfl rfl (by omega) qv30 ?_
            refine z_isubW rfl rfl rfl (fun v37 ev37 => ?_)
            have fv37 := jfull v37
            try rw [show ((v32.toInt / 366) - (v34.toInt / 366)) = v36.toInt from by omega] at D
            try rw [← ev37] at D
            refine z_mabsD rfl q_7_119 (by decide) rfl rfl (fun v38 ev38 => ?_)
            have fv38 := jfull v38
            try rw [← ev38] at D
            refine x_aloadn (x := 78) rfl rfl ?_
            refine z_getI (N := 16) 7 6 rfl f_7_24 rfl J rfl sg_78_6_7_1_0_1 (fun v39 qv39 ev39 => ?_)
            try rw [vrf qv39] at D
            refine x_icle (tgt := 55) rfl rfl (ti_le rfl rfl ⟨fun c40 => ?_, fun c40 => ?_⟩)
            ·
              rw [if_pos (by omega)] at D
              refine x_iconst (v := 0) rfl ki_0 ?_
              refine x_zret rfl rfl (by decide) ?_
              show jX m_X7_reasonFor 3 0 0 149 [(0, .ref 78), (1, .int l1), (2, .int l2)] [.int 0] _ 0 0 _
              refine x_ifne (tgt := 161) rfl rfl (ti_ne jk_0 jk_0 (bn_f (by omega) ?_))
              refine x_aloadn (x := 78) rfl rfl ?_
              refine x_iloadn (x := l2) rfl rfl ?_
              refine x_iloadn (x := l1) rfl rfl ?_
              refine x_inv (N := m_X7_isOfOtherAge) (As := [.int l2, .int l1]) (b := 78) (st := []) (dx9 := 2) (mc := 0) (ms := 0) (host := "") 7 rfl t_X7_isOfOtherAge ⟨Or.inl q_7_110, i_X7_isOfOtherAge.1, i_X7_isOfOtherAge.2⟩ ⟨by decide, rfl⟩ (congrArg Prod.fst (J.1.1 78 (7, 16) rfl)) rfl (by decide) rfl rfl ⟨by decide, by decide⟩ (jC.of rfl k_X7_isOfOtherAge rfl ?_)
              show jX m_X7_isOfOtherAge 2 0 0 0 [(0, .ref 78), (1, .int l2), (2, .int l1)] [] _ 0 0 _
              refine x_aloadn (x := 78) rfl rfl ?_
              refine x_iloadn (x := l2) rfl rfl ?_
              refine x_iloadn (x := l1) rfl rfl ?_
              refine x_inv (N := m_X7_isWithAge) (As := [.int l2, .int l1]) (b := 78) (st := []) (dx9 := 1) (mc := 0) (ms := 0) (host := "") 7 rfl t_X7_isWithAge ⟨Or.inl q_7_116, i_X7_isWithAge.1, i_X7_isWithAge.2⟩ ⟨by decide, rfl⟩ (congrArg Prod.fst (J.1.1 78 (7, 16) rfl)) rfl (by decide) rfl rfl ⟨by decide, by decide⟩ (jC.of rfl k_X7_isWithAge rfl ?_)
              show jX m_X7_isWithAge 1 0 0 0 [(0, .ref 78), (1, .int l2), (2, .int l1)] [] _ 0 0 _
              refine x_aloadn (x := 78) rfl rfl ?_
              refine z_getR (N := 16) (b := 79) 7 7 rfl f_7_27 rfl J rfl 9991 ⟨rfl, rfl⟩ rfl ?_
              refine x_iloadn (x := l2) rfl rfl ?_
              refine z_ialdM (N := 600) (v := v27) rfl J rfl rfl (by omega) qv27 ?_
              refine x_ifne (tgt := 33) rfl rfl (ti_ne rfl jk_0 (bn_t (by omega) ?_))
              refine x_iconst (v := 0) rfl ki_0 ?_
              refine x_zret rfl rfl (by decide) ?_
              show jX m_X7_isOfOtherAge 2 0 0 6 [(0, .ref 78), (1, .int l2), (2, .int l1)] [.int 0] _ 0 0 _
              refine x_ifne (tgt := 11) rfl rfl (ti_ne jk_0 jk_0 (bn_f (by omega) ?_))
              refine x_iconst (v := 0) rfl ki_0 ?_
              refine x_zret rfl rfl (by decide) ?_
              show jX m_X7_reasonFor 3 0 0 158 [(0, .ref 78), (1, .int l1), (2, .int l2)] [.int 0] _ 0 0 _
              refine x_ifeq (tgt := 166) rfl rfl (ti_eq jk_0 jk_0 (br_t (by omega) ?_))
              refine x_iconst (v := 0) rfl ki_0 ?_
              exact jX.sub jsb_n (ct_X7_reasonFor_r78d_200167 hD hQ  h J Sm D EV)
            ·
              rw [if_neg (by omega)] at D
              refine x_iconst (v := 1) rfl ki_1 ?_
              refine x_goto (tgt := 56) rfl rfl ?_
              refine x_zret rfl rfl (by decide) ?_
              show jX m_X7_reasonFor 3 0 0 149 [(0, .ref 78), (1, .int l1), (2, .int l2)] [.int 1] _ 0 0 _
              refine x_ifne (tgt := 161) rfl rfl (ti_ne jk_1 jk_0 (bn_t (by omega) ?_))
              exact jX.sub jsb_n (ct_X7_reasonFor_r78d_161 hD hQ  h J Sm D EV)
    ·
      rw [if_neg (by omega)] at D
      exact jX.sub jsb_n (ct_X7_reasonFor_r78d_140 hD hQ  h J Sm D EV)
set_option maxRecDepth 100000 in
set_option maxHeartbeats 4000000 in
theorem ct_X7_reasonFor_r78d_104 {Dy : jH → Prop} {h0 : jH} {Q : Option Value → jH → Prop} {dr : Int} (hD : jDk Dy) (hQ : ∀ (v : Int32) hx9, 0 ≤ v.toInt ∧ v.toInt ≤ 7 → jJ jSgX Dy hx9 → jSm fp_X7_reasonFor_r78d h0 hx9 → dr = v.toInt → vw hx9 = vw h0 → Q (some (.int v)) hx9) : ∀ (l1 : Int32) (l2 : Int32) (h : jH), 0 ≤ l1.toInt ∧ l1.toInt ≤ 599 → 0 ≤ l2.toInt ∧ l2.toInt ≤ 599 → jJ jSgX Dy h → jSm fp_X7_reasonFor_r78d h0 h → d_X7_reasonFor_r78d_104  l1.toInt l2.toInt (vw h) = dr → vw h = vw h0 → jX m_X7_reasonFor 3 0 0 104 [(0, .ref 78), (1, .int l1), (2, .int l2)] [] h 0 0 Q := by
  intro l1 l2 h y0 y1   J Sm D EV
  unfold d_X7_reasonFor_r78d_104 at D
  refine x_aloadn (x := 78) rfl rfl ?_
  refine x_iloadn (x := l1) rfl rfl ?_
  refine x_inv (N := m_X7_isWoman) (As := [.int l1]) (b := 78) (st := []) (dx9 := 2) (mc := 0) (ms := 0) (host := "") 7 rfl t_X7_isWoman ⟨Or.inl q_7_98, i_X7_isWoman.1, i_X7_isWoman.2⟩ ⟨by decide, rfl⟩ (congrArg Prod.fst (J.1.1 78 (7, 16) rfl)) rfl (by decide) rfl rfl ⟨by decide, by decide⟩ (jC.of rfl k_X7_isWoman rfl ?_)
  show jX m_X7_isWoman 2 0 0 0 [(0, .ref 78), (1, .int l1)] [] _ 0 0 _
  refine x_aloadn (x := 78) rfl rfl ?_
  refine z_getR (N := 16) (b := 79) 7 7 rfl f_7_27 rfl J rfl 9991 ⟨rfl, rfl⟩ rfl ?_
  refine x_iloadn (x := l1) rfl rfl ?_
  refine z_iald (N := 600) rfl J rfl sg_79_0_600_1_0_1 rfl (by omega) (fun v1 qv1 ev1 => ?_)
  try rw [vrd qv1 (show l1.toInt = l1.toInt from by omega)] at D
  refine x_iconst (v := 4) rfl ki_4 ?_
  refine x_iceq (tgt := 20) rfl rfl (ti_eq rfl jk_4 ⟨fun c2 => ?_, fun c2 => ?_⟩)
  ·
    rw [if_pos (by omega)] at D
    refine x_iconst (v := 1) rfl ki_1 ?_
    refine x_goto (tgt := 25) rfl rfl ?_
    refine x_zret rfl rfl (by decide) ?_
    show jX m_X7_reasonFor 3 0 0 109 [(0, .ref 78), (1, .int l1), (2, .int l2)] [.int 1] _ 0 0 _
    refine x_ifeq (tgt := 122) rfl rfl (ti_eq jk_1 jk_0 (br_f (by omega) ?_))
    refine x_aloadn (x := 78) rfl rfl ?_
    refine x_iloadn (x := l2) rfl rfl ?_
    refine x_inv (N := m_X7_isMan) (As := [.int l2]) (b := 78) (st := []) (dx9 := 2) (mc := 0) (ms := 0) (host := "") 7 rfl t_X7_isMan ⟨Or.inl q_7_104, i_X7_isMan.1, i_X7_isMan.2⟩ ⟨by decide, rfl⟩ (congrArg Prod.fst (J.1.1 78 (7, 16) rfl)) rfl (by decide) rfl rfl ⟨by decide, by decide⟩ (jC.of rfl k_X7_isMan rfl ?_)
    show jX m_X7_isMan 2 0 0 0 [(0, .ref 78), (1, .int l2)] [] _ 0 0 _
    refine x_aloadn (x := 78) rfl rfl ?_
    refine z_getR (N := 16) (b := 79) 7 7 rfl f_7_27 rfl J rfl 9991 ⟨rfl, rfl⟩ rfl ?_
    refine x_iloadn (x := l2) rfl rfl ?_
    refine z_iald (N := 600) rfl J rfl sg_79_0_600_1_0_1 rfl (by omega) (fun v3 qv3 ev3 => ?_)
    try rw [vrd qv3 (show l2.toInt = l2.toInt from by omega)] at D
    refine x_iconst (v := 3) rfl ki_3 ?_
    refine x_iceq (tgt := 20) rfl rfl (ti_eq rfl jk_3 ⟨fun c4 => ?_, fun c4 => ?_⟩)
    ·
      rw [if_pos (by omega)] at D
      refine x_iconst (v := 1) rfl ki_1 ?_
      refine x_goto (tgt := 25) rfl rfl ?_
      refine x_zret rfl rfl (by decide) ?_
      show jX m_X7_reasonFor 3 0 0 117 [(0, .ref 78), (1, .int l1), (2, .int l2)] [.int 1] _ 0 0 _
      refine x_ifeq (tgt := 122) rfl rfl (ti_eq jk_1 jk_0 (br_f (by omega) ?_))
      exact jX.sub jsb_n (ct_X7_reasonFor_r78d_120 hD hQ  h J Sm D EV)
    ·
      rw [if_neg (by omega)] at D
      refine x_aloadn (x := 78) rfl rfl ?_
      refine z_getR (N := 16) (b := 79) 7 7 rfl f_7_27 rfl J rfl 9991 ⟨rfl, rfl⟩ rfl ?_
      refine x_iloadn (x := l2) rfl rfl ?_
      refine z_ialdM (N := 600) (v := v3) rfl J rfl rfl (by omega) qv3 ?_
      refine x_iconst (v := 1) rfl ki_1 ?_
      refine x_icne (tgt := 24) rfl rfl (ti_ne rfl jk_1 ⟨fun c5 => ?_, fun c5 => ?_⟩)
      ·
        rw [if_neg (by omega)] at D
        refine x_iconst (v := 0) rfl ki_0 ?_
        refine x_zret rfl rfl (by decide) ?_
        show jX m_X7_reasonFor 3 0 0 117 [(0, .ref 78), (1, .int l1), (2, .int l2)] [.int 0] _ 0 0 _
        refine x_ifeq (tgt := 122) rfl rfl (ti_eq jk_0 jk_0 (br_t (by omega) ?_))
        exact jX.sub (jsb_c rfl (jsb_c rfl (jsb_c rfl jsb_n))) (ct_X7_reasonFor_r78d_122 hD hQ  l1 l2 h (jr_of rfl (by omega)) (jr_of rfl (by omega)) J Sm D EV)
      ·
        rw [if_pos (by omega)] at D
        refine x_iconst (v := 1) rfl ki_1 ?_
        refine x_goto (tgt := 25) rfl rfl ?_
        refine x_zret rfl rfl (by decide) ?_
        show jX m_X7_reasonFor 3 0 0 117 [(0, .ref 78), (1, .int l1), (2, .int l2)] [.int 1] _ 0 0 _
        refine x_ifeq (tgt := 122) rfl rfl (ti_eq jk_1 jk_0 (br_f (by omega) ?_))
        exact jX.sub jsb_n (ct_X7_reasonFor_r78d_120 hD hQ  h J Sm D EV)
  ·
    rw [if_neg (by omega)] at D
    refine x_aloadn (x := 78) rfl rfl ?_
    refine z_getR (N := 16) (b := 79) 7 7 rfl f_7_27 rfl J rfl 9991 ⟨rfl, rfl⟩ rfl ?_
    refine x_iloadn (x := l1) rfl rfl ?_
    refine z_ialdM (N := 600) (v := v1) rfl J rfl rfl (by omega) qv1 ?_
    refine x_iconst (v := 2) rfl ki_2 ?_
    refine x_icne (tgt := 24) rfl rfl (ti_ne rfl jk_2 ⟨fun c6 => ?_, fun c6 => ?_⟩)
    ·
      rw [if_neg (by omega)] at D
      refine x_iconst (v := 0) rfl ki_0 ?_
      refine x_zret rfl rfl (by decide) ?_
      show jX m_X7_reasonFor 3 0 0 109 [(0, .ref 78), (1, .int l1), (2, .int l2)] [.int 0] _ 0 0 _
      refine x_ifeq (tgt := 122) rfl rfl (ti_eq jk_0 jk_0 (br_t (by omega) ?_))
      exact jX.sub (jsb_c rfl (jsb_c rfl (jsb_c rfl jsb_n))) (ct_X7_reasonFor_r78d_122 hD hQ  l1 l2 h (jr_of rfl (by omega)) (jr_of rfl (by omega)) J Sm D EV)
    ·
      rw [if_pos (by omega)] at D
      refine x_iconst (v := 1) rfl ki_1 ?_
      refine x_goto (tgt := 25) rfl rfl ?_
      refine x_zret rfl rfl (by decide) ?_
      show jX m_X7_reasonFor 3 0 0 109 [(0, .ref 78), (1, .int l1), (2, .int l2)] [.int 1] _ 0 0 _
      refine x_ifeq (tgt := 122) rfl rfl (ti_eq jk_1 jk_0 (br_f (by omega) ?_))
      refine x_aloadn (x := 78) rfl rfl ?_
      refine x_iloadn (x := l2) rfl rfl ?_
      refine x_inv (N := m_X7_isMan) (As := [.int l2]) (b := 78) (st := []) (dx9 := 2) (mc := 0) (ms := 0) (host := "") 7 rfl t_X7_isMan ⟨Or.inl q_7_104, i_X7_isMan.1, i_X7_isMan.2⟩ ⟨by decide, rfl⟩ (congrArg Prod.fst (J.1.1 78 (7, 16) rfl)) rfl (by decide) rfl rfl ⟨by decide, by decide⟩ (jC.of rfl k_X7_isMan rfl ?_)
      show jX m_X7_isMan 2 0 0 0 [(0, .ref 78), (1, .int l2)] [] _ 0 0 _
      refine x_aloadn (x := 78) rfl rfl ?_
      refine z_getR (N := 16) (b := 79) 7 7 rfl f_7_27 rfl J rfl 9991 ⟨rfl, rfl⟩ rfl ?_
      refine x_iloadn (x := l2) rfl rfl ?_
      refine z_iald (N := 600) rfl J rfl sg_79_0_600_1_0_1 rfl (by omega) (fun v7 qv7 ev7 => ?_)
      try rw [vrd qv7 (show l2.toInt = l2.toInt from by omega)] at D
      refine x_iconst (v := 3) rfl ki_3 ?_
      refine x_iceq (tgt := 20) rfl rfl (ti_eq rfl jk_3 ⟨fun c8 => ?_, fun c8 => ?_⟩)
      ·
        rw [if_pos (by omega)] at D
        refine x_iconst (v := 1) rfl ki_1 ?_
        refine x_goto (tgt := 25) rfl rfl ?_
        refine x_zret rfl rfl (by decide) ?_
        show jX m_X7_reasonFor 3 0 0 117 [(0, .ref 78), (1, .int l1), (2, .int l2)] [.int 1] _ 0 0 _
        refine x_ifeq (tgt := 122) rfl rfl (ti_eq jk_1 jk_0 (br_f (by omega) ?_))
        exact jX.sub jsb_n (ct_X7_reasonFor_r78d_120 hD hQ  h J Sm D EV)
      ·
        rw [if_neg (by omega)] at D
        refine x_aloadn (x := 78) rfl rfl ?_
        refine z_getR (N := 16) (b := 79) 7 7 rfl f_7_27 rfl J rfl 9991 ⟨rfl, rfl⟩ rfl ?_
        refine x_iloadn (x := l2) rfl rfl ?_
        refine z_ialdM (N := 600) (v := v7) rfl J rfl rfl (by omega) qv7 ?_
        refine x_iconst (v := 1) rfl ki_1 ?_
        refine x_icne (tgt := 24) rfl rfl (ti_ne rfl jk_1 ⟨fun c9 => ?_, fun c9 => ?_⟩)
        ·
          rw [if_neg (by omega)] at D
          refine x_iconst (v := 0) rfl ki_0 ?_
          refine x_zret rfl rfl (by decide) ?_
          show jX m_X7_reasonFor 3 0 0 117 [(0, .ref 78), (1, .int l1), (2, .int l2)] [.int 0] _ 0 0 _
          refine x_ifeq (tgt := 122) rfl rfl (ti_eq jk_0 jk_0 (br_t (by omega) ?_))
          exact jX.sub (jsb_c rfl (jsb_c rfl (jsb_c rfl jsb_n))) (ct_X7_reasonFor_r78d_122 hD hQ  l1 l2 h (jr_of rfl (by omega)) (jr_of rfl (by omega)) J Sm D EV)
        ·
          rw [if_pos (by omega)] at D
          refine x_iconst (v := 1) rfl ki_1 ?_
          refine x_goto (tgt := 25) rfl rfl ?_
          refine x_zret rfl rfl (by decide) ?_
          show jX m_X7_reasonFor 3 0 0 117 [(0, .ref 78), (1, .int l1), (2, .int l2)] [.int 1] _ 0 0 _
          refine x_ifeq (tgt := 122) rfl rfl (ti_eq jk_1 jk_0 (br_f (by omega) ?_))
          exact jX.sub jsb_n (ct_X7_reasonFor_r78d_120 hD hQ  h J Sm D EV)
set_option maxRecDepth 100000 in
set_option maxHeartbeats 4000000 in
theorem ct_X7_reasonFor_r78d_68 {Dy : jH → Prop} {h0 : jH} {Q : Option Value → jH → Prop} {dr : Int} (hD : jDk Dy) (hQ : ∀ (v : Int32) hx9, 0 ≤ v.toInt ∧ v.toInt ≤ 7 → jJ jSgX Dy hx9 → jSm fp_X7_reasonFor_r78d h0 hx9 → dr = v.toInt → vw hx9 = vw h0 → Q (some (.int v)) hx9) : ∀ (l1 : Int32) (l2 : Int32) (h : jH), 0 ≤ l1.toInt ∧ l1.toInt ≤ 599 → 0 ≤ l2.toInt ∧ l2.toInt ≤ 599 → jJ jSgX Dy h → jSm fp_X7_reasonFor_r78d h0 h → d_X7_reasonFor_r78d_68  l1.toInt l2.toInt (vw h) = dr → vw h = vw h0 → jX m_X7_reasonFor 3 0 0 68 [(0, .ref 78), (1, .int l1), (2, .int l2)] [] h 0 0 Q := by
  intro l1 l2 h y0 y1   J Sm D EV
  unfold d_X7_reasonFor_r78d_68 at D
  refine x_aloadn (x := 78) rfl rfl ?_
  refine x_iloadn (x := l1) rfl rfl ?_
  refine x_iloadn (x := l2) rfl rfl ?_
  refine x_iconst (v := 0) rfl ki_0 ?_
  refine x_inv (N := m_X7_areBoth) (As := [.int l1, .int l2, .int 0]) (b := 78) (st := []) (dx9 := 2) (mc := 0) (ms := 0) (host := "") 7 rfl t_X7_areBoth ⟨Or.inl q_7_101, i_X7_areBoth.1, i_X7_areBoth.2⟩ ⟨by decide, rfl⟩ (congrArg Prod.fst (J.1.1 78 (7, 16) rfl)) rfl (by decide) rfl rfl ⟨by decide, by decide⟩ (jC.of rfl k_X7_areBoth rfl ?_)
  show jX m_X7_areBoth 2 0 0 0 [(0, .ref 78), (1, .int l1), (2, .int l2), (3, .int 0)] [] _ 0 0 _
  refine x_aloadn (x := 78) rfl rfl ?_
  refine z_getR (N := 16) (b := 79) 7 7 rfl f_7_27 rfl J rfl 9991 ⟨rfl, rfl⟩ rfl ?_
  refine x_iloadn (x := l1) rfl rfl ?_
  refine z_iald (N := 600) rfl J rfl sg_79_0_600_1_0_1 rfl (by omega) (fun v1 qv1 ev1 => ?_)
  try rw [vrd qv1 (show l1.toInt = l1.toInt from by omega)] at D
  refine x_iloadn (x := 0) rfl rfl ?_
  refine x_icne (tgt := 24) rfl rfl (ti_ne rfl jk_0 ⟨fun c2 => ?_, fun c2 => ?_⟩)
  ·
    rw [if_neg (by omega)] at D
    refine x_iconst (v := 0) rfl ki_0 ?_
    refine x_zret rfl rfl (by decide) ?_
    show jX m_X7_reasonFor 3 0 0 75 [(0, .ref 78), (1, .int l1), (2, .int l2)] [.int 0] _ 0 0 _
    refine x_ifne (tgt := 120) rfl rfl (ti_ne jk_0 jk_0 (bn_f (by omega) ?_))
    refine x_aloadn (x := 78) rfl rfl ?_
    refine x_iloadn (x := l1) rfl rfl ?_
    refine x_iloadn (x := l2) rfl rfl ?_
    refine x_iconst (v := 5) rfl ki_5 ?_
    refine x_inv (N := m_X7_areBoth) (As := [.int l1, .int l2, .int 5]) (b := 78) (st := []) (dx9 := 2) (mc := 0) (ms := 0) (host := "") 7 rfl t_X7_areBoth ⟨Or.inl q_7_101, i_X7_areBoth.1, i_X7_areBoth.2⟩ ⟨by decide, rfl⟩ (congrArg Prod.fst (J.1.1 78 (7, 16) rfl)) rfl (by decide) rfl rfl ⟨by decide, by decide⟩ (jC.of rfl k_X7_areBoth rfl ?_)
    show jX m_X7_areBoth 2 0 0 0 [(0, .ref 78), (1, .int l1), (2, .int l2), (3, .int 5)] [] _ 0 0 _
    refine x_aloadn (x := 78) rfl rfl ?_
    refine z_getR (N := 16) (b := 79) 7 7 rfl f_7_27 rfl J rfl 9991 ⟨rfl, rfl⟩ rfl ?_
    refine x_iloadn (x := l1) rfl rfl ?_
    refine z_ialdM (N := 600) (v := v1) rfl J rfl rfl (by omega) qv1 ?_
    refine x_iloadn (x := 5) rfl rfl ?_
    refine x_icne (tgt := 24) rfl rfl (ti_ne rfl jk_5 ⟨fun c3 => ?_, fun c3 => ?_⟩)
    ·
      rw [if_neg (by omega)] at D
      refine x_iconst (v := 0) rfl ki_0 ?_
      refine x_zret rfl rfl (by decide) ?_
      show jX m_X7_reasonFor 3 0 0 85 [(0, .ref 78), (1, .int l1), (2, .int l2)] [.int 0] _ 0 0 _
      refine x_ifne (tgt := 120) rfl rfl (ti_ne jk_0 jk_0 (bn_f (by omega) ?_))
      refine x_aloadn (x := 78) rfl rfl ?_
      refine x_iloadn (x := l1) rfl rfl ?_
      refine x_inv (N := m_X7_isMan) (As := [.int l1]) (b := 78) (st := []) (dx9 := 2) (mc := 0) (ms := 0) (host := "") 7 rfl t_X7_isMan ⟨Or.inl q_7_104, i_X7_isMan.1, i_X7_isMan.2⟩ ⟨by decide, rfl⟩ (congrArg Prod.fst (J.1.1 78 (7, 16) rfl)) rfl (by decide) rfl rfl ⟨by decide, by decide⟩ (jC.of rfl k_X7_isMan rfl ?_)
      show jX m_X7_isMan 2 0 0 0 [(0, .ref 78), (1, .int l1)] [] _ 0 0 _
      refine x_aloadn (x := 78) rfl rfl ?_
      refine z_getR (N := 16) (b := 79) 7 7 rfl f_7_27 rfl J rfl 9991 ⟨rfl, rfl⟩ rfl ?_
      refine x_iloadn (x := l1) rfl rfl ?_
      refine z_ialdM (N := 600) (v := v1) rfl J rfl rfl (by omega) qv1 ?_
      refine x_iconst (v := 3) rfl ki_3 ?_
      refine x_iceq (tgt := 20) rfl rfl (ti_eq rfl jk_3 ⟨fun c4 => ?_, fun c4 => ?_⟩)
      ·
        rw [if_pos (by omega)] at D
        refine x_iconst (v := 1) rfl ki_1 ?_
        refine x_goto (tgt := 25) rfl rfl ?_
        refine x_zret rfl rfl (by decide) ?_
        show jX m_X7_reasonFor 3 0 0 93 [(0, .ref 78), (1, .int l1), (2, .int l2)] [.int 1] _ 0 0 _
        refine x_ifeq (tgt := 104) rfl rfl (ti_eq jk_1 jk_0 (br_f (by omega) ?_))
        refine x_aloadn (x := 78) rfl rfl ?_
        refine x_iloadn (x := l2) rfl rfl ?_
        refine x_inv (N := m_X7_isWoman) (As := [.int l2]) (b := 78) (st := []) (dx9 := 2) (mc := 0) (ms := 0) (host := "") 7 rfl t_X7_isWoman ⟨Or.inl q_7_98, i_X7_isWoman.1, i_X7_isWoman.2⟩ ⟨by decide, rfl⟩ (congrArg Prod.fst (J.1.1 78 (7, 16) rfl)) rfl (by decide) rfl rfl ⟨by decide, by decide⟩ (jC.of rfl k_X7_isWoman rfl ?_)
        show jX m_X7_isWoman 2 0 0 0 [(0, .ref 78), (1, .int l2)] [] _ 0 0 _
        refine x_aloadn (x := 78) rfl rfl ?_
        refine z_getR (N := 16) (b := 79) 7 7 rfl f_7_27 rfl J rfl 9991 ⟨rfl, rfl⟩ rfl ?_
        refine x_iloadn (x := l2) rfl rfl ?_
        refine z_iald (N := 600) rfl J rfl sg_79_0_600_1_0_1 rfl (by omega) (fun v5 qv5 ev5 => ?_)
        try rw [vrd qv5 (show l2.toInt = l2.toInt from by omega)] at D
        refine x_iconst (v := 4) rfl ki_4 ?_
        refine x_iceq (tgt := 20) rfl rfl (ti_eq rfl jk_4 ⟨fun c6 => ?_, fun c6 => ?_⟩)
        ·
          rw [if_pos (by omega)] at D
          refine x_iconst (v := 1) rfl ki_1 ?_
          refine x_goto (tgt := 25) rfl rfl ?_
          refine x_zret rfl rfl (by decide) ?_
          show jX m_X7_reasonFor 3 0 0 101 [(0, .ref 78), (1, .int l1), (2, .int l2)] [.int 1] _ 0 0 _
          refine x_ifne (tgt := 120) rfl rfl (ti_ne jk_1 jk_0 (bn_t (by omega) ?_))
          exact jX.sub jsb_n (ct_X7_reasonFor_r78d_120 hD hQ  h J Sm D EV)
        ·
          rw [if_neg (by omega)] at D
          refine x_aloadn (x := 78) rfl rfl ?_
          refine z_getR (N := 16) (b := 79) 7 7 rfl f_7_27 rfl J rfl 9991 ⟨rfl, rfl⟩ rfl ?_
          refine x_iloadn (x := l2) rfl rfl ?_
          refine z_ialdM (N := 600) (v := v5) rfl J rfl rfl (by omega) qv5 ?_
          refine x_iconst (v := 2) rfl ki_2 ?_
          refine x_icne (tgt := 24) rfl rfl (ti_ne rfl jk_2 ⟨fun c7 => ?_, fun c7 => ?_⟩)
          ·
            rw [if_neg (by omega)] at D
            refine x_iconst (v := 0) rfl ki_0 ?_
            refine x_zret rfl rfl (by decide) ?_
            show jX m_X7_reasonFor 3 0 0 101 [(0, .ref 78), (1, .int l1), (2, .int l2)] [.int 0] _ 0 0 _
            refine x_ifne (tgt := 120) rfl rfl (ti_ne jk_0 jk_0 (bn_f (by omega) ?_))
            exact jX.sub (jsb_c rfl (jsb_c rfl (jsb_c rfl jsb_n))) (ct_X7_reasonFor_r78d_104 hD hQ  l1 l2 h (jr_of rfl (by omega)) (jr_of rfl (by omega)) J Sm D EV)
          ·
            rw [if_pos (by omega)] at D
            refine x_iconst (v := 1) rfl ki_1 ?_
            refine x_goto (tgt := 25) rfl rfl ?_
            refine x_zret rfl rfl (by decide) ?_
            show jX m_X7_reasonFor 3 0 0 101 [(0, .ref 78), (1, .int l1), (2, .int l2)] [.int 1] _ 0 0 _
            refine x_ifne (tgt := 120) rfl rfl (ti_ne jk_1 jk_0 (bn_t (by omega) ?_))
            exact jX.sub jsb_n (ct_X7_reasonFor_r78d_120 hD hQ  h J Sm D EV)
      ·
        rw [if_neg (by omega)] at D
        refine x_aloadn (x := 78) rfl rfl ?_
        refine z_getR (N := 16) (b := 79) 7 7 rfl f_7_27 rfl J rfl 9991 ⟨rfl, rfl⟩ rfl ?_
        refine x_iloadn (x := l1) rfl rfl ?_
        refine z_ialdM (N := 600) (v := v1) rfl J rfl rfl (by omega) qv1 ?_
        refine x_iconst (v := 1) rfl ki_1 ?_
        refine x_icne (tgt := 24) rfl rfl (ti_ne rfl jk_1 ⟨fun c8 => ?_, fun c8 => ?_⟩)
        ·
          rw [if_neg (by omega)] at D
          refine x_iconst (v := 0) rfl ki_0 ?_
          refine x_zret rfl rfl (by decide) ?_
          show jX m_X7_reasonFor 3 0 0 93 [(0, .ref 78), (1, .int l1), (2, .int l2)] [.int 0] _ 0 0 _
          refine x_ifeq (tgt := 104) rfl rfl (ti_eq jk_0 jk_0 (br_t (by omega) ?_))
          exact jX.sub (jsb_c rfl (jsb_c rfl (jsb_c rfl jsb_n))) (ct_X7_reasonFor_r78d_104 hD hQ  l1 l2 h (jr_of rfl (by omega)) (jr_of rfl (by omega)) J Sm D EV)
        ·
          rw [if_pos (by omega)] at D
          refine x_iconst (v := 1) rfl ki_1 ?_
          refine x_goto (tgt := 25) rfl rfl ?_
          refine x_zret rfl rfl (by decide) ?_
          show jX m_X7_reasonFor 3 0 0 93 [(0, .ref 78), (1, .int l1), (2, .int l2)] [.int 1] _ 0 0 _
          refine x_ifeq (tgt := 104) rfl rfl (ti_eq jk_1 jk_0 (br_f (by omega) ?_))
          refine x_aloadn (x := 78) rfl rfl ?_
          refine x_iloadn (x := l2) rfl rfl ?_
          refine x_inv (N := m_X7_isWoman) (As := [.int l2]) (b := 78) (st := []) (dx9 := 2) (mc := 0) (ms := 0) (host := "") 7 rfl t_X7_isWoman ⟨Or.inl q_7_98, i_X7_isWoman.1, i_X7_isWoman.2⟩ ⟨by decide, rfl⟩ (congrArg Prod.fst (J.1.1 78 (7, 16) rfl)) rfl (by decide) rfl rfl ⟨by decide, by decide⟩ (jC.of rfl k_X7_isWoman rfl ?_)
          show jX m_X7_isWoman 2 0 0 0 [(0, .ref 78), (1, .int l2)] [] _ 0 0 _
          refine x_aloadn (x := 78) rfl rfl ?_
          refine z_getR (N := 16) (b := 79) 7 7 rfl f_7_27 rfl J rfl 9991 ⟨rfl, rfl⟩ rfl ?_
          refine x_iloadn (x := l2) rfl rfl ?_
          refine z_iald (N := 600) rfl J rfl sg_79_0_600_1_0_1 rfl (by omega) (fun v9 qv9 ev9 => ?_)
          try rw [vrd qv9 (show l2.toInt = l2.toInt from by omega)] at D
          refine x_iconst (v := 4) rfl ki_4 ?_
          refine x_iceq (tgt := 20) rfl rfl (ti_eq rfl jk_4 ⟨fun c10 => ?_, fun c10 => ?_⟩)
          ·
            rw [if_pos (by omega)] at D
            refine x_iconst (v := 1) rfl ki_1 ?_
            refine x_goto (tgt := 25) rfl rfl ?_
            refine x_zret rfl rfl (by decide) ?_
            show jX m_X7_reasonFor 3 0 0 101 [(0, .ref 78), (1, .int l1), (2, .int l2)] [.int 1] _ 0 0 _
            refine x_ifne (tgt := 120) rfl rfl (ti_ne jk_1 jk_0 (bn_t (by omega) ?_))
            exact jX.sub jsb_n (ct_X7_reasonFor_r78d_120 hD hQ  h J Sm D EV)
          ·
            rw [if_neg (by omega)] at D
            refine x_aloadn (x := 78) rfl rfl ?_
            refine z_getR (N := 16) (b := 79) 7 7 rfl f_7_27 rfl J rfl 9991 ⟨rfl, rfl⟩ rfl ?_
            refine x_iloadn (x := l2) rfl rfl ?_
            refine z_ialdM (N := 600) (v := v9) rfl J rfl rfl (by omega) qv9 ?_
            refine x_iconst (v := 2) rfl ki_2 ?_
            refine x_icne (tgt := 24) rfl rfl (ti_ne rfl jk_2 ⟨fun c11 => ?_, fun c11 => ?_⟩)
            ·
              rw [if_neg (by omega)] at D
              refine x_iconst (v := 0) rfl ki_0 ?_
              refine x_zret rfl rfl (by decide) ?_
              show jX m_X7_reasonFor 3 0 0 101 [(0, .ref 78), (1, .int l1), (2, .int l2)] [.int 0] _ 0 0 _
              refine x_ifne (tgt := 120) rfl rfl (ti_ne jk_0 jk_0 (bn_f (by omega) ?_))
              exact jX.sub (jsb_c rfl (jsb_c rfl (jsb_c rfl jsb_n))) (ct_X7_reasonFor_r78d_104 hD hQ  l1 l2 h (jr_of rfl (by omega)) (jr_of rfl (by omega)) J Sm D EV)
            ·
              rw [if_pos (by omega)] at D
              refine x_iconst (v := 1) rfl ki_1 ?_
              refine x_goto (tgt := 25) rfl rfl ?_
              refine x_zret rfl rfl (by decide) ?_
              show jX m_X7_reasonFor 3 0 0 101 [(0, .ref 78), (1, .int l1), (2, .int l2)] [.int 1] _ 0 0 _
              refine x_ifne (tgt := 120) rfl rfl (ti_ne jk_1 jk_0 (bn_t (by omega) ?_))
              exact jX.sub jsb_n (ct_X7_reasonFor_r78d_120 hD hQ  h J Sm D EV)
    ·
      rw [if_pos (by omega)] at D
      refine x_aloadn (x := 78) rfl rfl ?_
      refine z_getR (N := 16) (b := 79) 7 7 rfl f_7_27 rfl J rfl 9991 ⟨rfl, rfl⟩ rfl ?_
      refine x_iloadn (x := l2) rfl rfl ?_
      refine z_iald (N := 600) rfl J rfl sg_79_0_600_1_0_1 rfl (by omega) (fun v12 qv12 ev12 => ?_)
      try rw [vrd qv12 (show l2.toInt = l2.toInt from by omega)] at D
      refine x_iloadn (x := 5) rfl rfl ?_
      refine x_icne (tgt := 24) rfl rfl (ti_ne rfl jk_5 ⟨fun c13 => ?_, fun c13 => ?_⟩)
      ·
        rw [if_neg (by omega)] at D
        refine x_iconst (v := 0) rfl ki_0 ?_
        refine x_zret rfl rfl (by decide) ?_
        show jX m_X7_reasonFor 3 0 0 85 [(0, .ref 78), (1, .int l1), (2, .int l2)] [.int 0] _ 0 0 _
        refine x_ifne (tgt := 120) rfl rfl (ti_ne jk_0 jk_0 (bn_f (by omega) ?_))
        refine x_aloadn (x := 78) rfl rfl ?_
        refine x_iloadn (x := l1) rfl rfl ?_
        refine x_inv (N := m_X7_isMan) (As := [.int l1]) (b := 78) (st := []) (dx9 := 2) (mc := 0) (ms := 0) (host := "") 7 rfl t_X7_isMan ⟨Or.inl q_7_104, i_X7_isMan.1, i_X7_isMan.2⟩ ⟨by decide, rfl⟩ (congrArg Prod.fst (J.1.1 78 (7, 16) rfl)) rfl (by decide) rfl rfl ⟨by decide, by decide⟩ (jC.of rfl k_X7_isMan rfl ?_)
        show jX m_X7_isMan 2 0 0 0 [(0, .ref 78), (1, .int l1)] [] _ 0 0 _
        refine x_aloadn (x := 78) rfl rfl ?_
        refine z_getR (N := 16) (b := 79) 7 7 rfl f_7_27 rfl J rfl 9991 ⟨rfl, rfl⟩ rfl ?_
        refine x_iloadn (x := l1) rfl rfl ?_
        refine z_ialdM (N := 600) (v := v1) rfl J rfl rfl (by omega) qv1 ?_
        refine x_iconst (v := 3) rfl ki_3 ?_
        refine x_iceq (tgt := 20) rfl rfl (ti_eq rfl jk_3 (br_f (by omega) ?_))
        refine x_aloadn (x := 78) rfl rfl ?_
        refine z_getR (N := 16) (b := 79) 7 7 rfl f_7_27 rfl J rfl 9991 ⟨rfl, rfl⟩ rfl ?_
        refine x_iloadn (x := l1) rfl rfl ?_
        refine z_ialdM (N := 600) (v := v1) rfl J rfl rfl (by omega) qv1 ?_
        refine x_iconst (v := 1) rfl ki_1 ?_
        refine x_icne (tgt := 24) rfl rfl (ti_ne rfl jk_1 (bn_t (by omega) ?_))
        refine x_iconst (v := 0) rfl ki_0 ?_
        refine x_zret rfl rfl (by decide) ?_
        show jX m_X7_reasonFor 3 0 0 93 [(0, .ref 78), (1, .int l1), (2, .int l2)] [.int 0] _ 0 0 _
        refine x_ifeq (tgt := 104) rfl rfl (ti_eq jk_0 jk_0 (br_t (by omega) ?_))
        exact jX.sub (jsb_c rfl (jsb_c rfl (jsb_c rfl jsb_n))) (ct_X7_reasonFor_r78d_104 hD hQ  l1 l2 h (jr_of rfl (by omega)) (jr_of rfl (by omega)) J Sm D EV)
      ·
        rw [if_pos (by omega)] at D
        refine x_iconst (v := 1) rfl ki_1 ?_
        refine x_goto (tgt := 25) rfl rfl ?_
        refine x_zret rfl rfl (by decide) ?_
        show jX m_X7_reasonFor 3 0 0 85 [(0, .ref 78), (1, .int l1), (2, .int l2)] [.int 1] _ 0 0 _
        refine x_ifne (tgt := 120) rfl rfl (ti_ne jk_1 jk_0 (bn_t (by omega) ?_))
        exact jX.sub jsb_n (ct_X7_reasonFor_r78d_120 hD hQ  h J Sm D EV)
  ·
    rw [if_pos (by omega)] at D
    refine x_aloadn (x := 78) rfl rfl ?_
    refine z_getR (N := 16) (b := 79) 7 7 rfl f_7_27 rfl J rfl 9991 ⟨rfl, rfl⟩ rfl ?_
    refine x_iloadn (x := l2) rfl rfl ?_
    refine z_iald (N := 600) rfl J rfl sg_79_0_600_1_0_1 rfl (by omega) (fun v14 qv14 ev14 => ?_)
    try rw [vrd qv14 (show l2.toInt = l2.toInt from by omega)] at D
    refine x_iloadn (x := 0) rfl rfl ?_
    refine x_icne (tgt := 24) rfl rfl (ti_ne rfl jk_0 ⟨fun c15 => ?_, fun c15 => ?_⟩)
    ·
      rw [if_neg (by omega)] at D
      refine x_iconst (v := 0) rfl ki_0 ?_
      refine x_zret rfl rfl (by decide) ?_
      show jX m_X7_reasonFor 3 0 0 75 [(0, .ref 78), (1, .int l1), (2, .int l2)] [.int 0] _ 0 0 _
      refine x_ifne (tgt := 120) rfl rfl (ti_ne jk_0 jk_0 (bn_f (by omega) ?_))
      refine x_aloadn (x := 78) rfl rfl ?_
      refine x_iloadn (x := l1) rfl rfl ?_
      refine x_iloadn (x := l2) rfl rfl ?_
      refine x_iconst (v := 5) rfl ki_5 ?_
      refine x_inv (N := m_X7_areBoth) (As := [.int l1, .int l2, .int 5]) (b := 78) (st := []) (dx9 := 2) (mc := 0) (ms := 0) (host := "") 7 rfl t_X7_areBoth ⟨Or.inl q_7_101, i_X7_areBoth.1, i_X7_areBoth.2⟩ ⟨by decide, rfl⟩ (congrArg Prod.fst (J.1.1 78 (7, 16) rfl)) rfl (by decide) rfl rfl ⟨by decide, by decide⟩ (jC.of rfl k_X7_areBoth rfl ?_)
      show jX m_X7_areBoth 2 0 0 0 [(0, .ref 78), (1, .int l1), (2, .int l2), (3, .int 5)] [] _ 0 0 _
      refine x_aloadn (x := 78) rfl rfl ?_
      refine z_getR (N := 16) (b := 79) 7 7 rfl f_7_27 rfl J rfl 9991 ⟨rfl, rfl⟩ rfl ?_
      refine x_iloadn (x := l1) rfl rfl ?_
      refine z_ialdM (N := 600) (v := v1) rfl J rfl rfl (by omega) qv1 ?_
      refine x_iloadn (x := 5) rfl rfl ?_
      refine x_icne (tgt := 24) rfl rfl (ti_ne rfl jk_5 (bn_t (by omega) ?_))
      refine x_iconst (v := 0) rfl ki_0 ?_
      refine x_zret rfl rfl (by decide) ?_
      show jX m_X7_reasonFor 3 0 0 85 [(0, .ref 78), (1, .int l1), (2, .int l2)] [.int 0] _ 0 0 _
      refine x_ifne (tgt := 120) rfl rfl (ti_ne jk_0 jk_0 (bn_f (by omega) ?_))
      refine x_aloadn (x := 78) rfl rfl ?_
      refine x_iloadn (x := l1) rfl rfl ?_
      refine x_inv (N := m_X7_isMan) (As := [.int l1]) (b := 78) (st := []) (dx9 := 2) (mc := 0) (ms := 0) (host := "") 7 rfl t_X7_isMan ⟨Or.inl q_7_104, i_X7_isMan.1, i_X7_isMan.2⟩ ⟨by decide, rfl⟩ (congrArg Prod.fst (J.1.1 78 (7, 16) rfl)) rfl (by decide) rfl rfl ⟨by decide, by decide⟩ (jC.of rfl k_X7_isMan rfl ?_)
      show jX m_X7_isMan 2 0 0 0 [(0, .ref 78), (1, .int l1)] [] _ 0 0 _
      refine x_aloadn (x := 78) rfl rfl ?_
      refine z_getR (N := 16) (b := 79) 7 7 rfl f_7_27 rfl J rfl 9991 ⟨rfl, rfl⟩ rfl ?_
      refine x_iloadn (x := l1) rfl rfl ?_
      refine z_ialdM (N := 600) (v := v1) rfl J rfl rfl (by omega) qv1 ?_
      refine x_iconst (v := 3) rfl ki_3 ?_
      refine x_iceq (tgt := 20) rfl rfl (ti_eq rfl jk_3 (br_f (by omega) ?_))
      refine x_aloadn (x := 78) rfl rfl ?_
      refine z_getR (N := 16) (b := 79) 7 7 rfl f_7_27 rfl J rfl 9991 ⟨rfl, rfl⟩ rfl ?_
      refine x_iloadn (x := l1) rfl rfl ?_
      refine z_ialdM (N := 600) (v := v1) rfl J rfl rfl (by omega) qv1 ?_
      refine x_iconst (v := 1) rfl ki_1 ?_
      refine x_icne (tgt := 24) rfl rfl (ti_ne rfl jk_1 (bn_t (by omega) ?_))
      refine x_iconst (v := 0) rfl ki_0 ?_
      refine x_zret rfl rfl (by decide) ?_
      show jX m_X7_reasonFor 3 0 0 93 [(0, .ref 78), (1, .int l1), (2, .int l2)] [.int 0] _ 0 0 _
      refine x_ifeq (tgt := 104) rfl rfl (ti_eq jk_0 jk_0 (br_t (by omega) ?_))
      exact jX.sub (jsb_c rfl (jsb_c rfl (jsb_c rfl jsb_n))) (ct_X7_reasonFor_r78d_104 hD hQ  l1 l2 h (jr_of rfl (by omega)) (jr_of rfl (by omega)) J Sm D EV)
    ·
      rw [if_pos (by omega)] at D
      refine x_iconst (v := 1) rfl ki_1 ?_
      refine x_goto (tgt := 25) rfl rfl ?_
      refine x_zret rfl rfl (by decide) ?_
      show jX m_X7_reasonFor 3 0 0 75 [(0, .ref 78), (1, .int l1), (2, .int l2)] [.int 1] _ 0 0 _
      refine x_ifne (tgt := 120) rfl rfl (ti_ne jk_1 jk_0 (bn_t (by omega) ?_))
      exact jX.sub jsb_n (ct_X7_reasonFor_r78d_120 hD hQ  h J Sm D EV)
set_option maxRecDepth 100000 in
set_option maxHeartbeats 4000000 in
theorem sf_X7_reasonFor_r78d {Dy : jH → Prop} {h : jH} {Q : Option Value → jH → Prop} {dr : Int} {a1 : Int32} {a2 : Int32} (y1 : 0 ≤ a1.toInt ∧ a1.toInt ≤ 599) (y2 : 0 ≤ a2.toInt ∧ a2.toInt ≤ 599) (hD : jDk Dy) (J : jJ jSgX Dy h) (D : d_X7_reasonFor_r78d a1.toInt a2.toInt (vw h) = dr) (hQ : ∀ (v : Int32) hx9, 0 ≤ v.toInt ∧ v.toInt ≤ 7 → jJ jSgX Dy hx9 → jSm fp_X7_reasonFor_r78d h hx9 → dr = v.toInt → vw hx9 = vw h → Q (some (.int v)) hx9) : jC m_X7_reasonFor 3 0 0 [.ref 78, .int a1, .int a2] h Q := by
  refine jC.of rfl k_X7_reasonFor rfl ?_
  have Sm := jSm_rf fp_X7_reasonFor_r78d h
  show jX m_X7_reasonFor 3 0 0 0 [(0, .ref 78), (1, .int a1), (2, .int a2)] [] _ 0 0 _
  unfold d_X7_reasonFor_r78d at D
  have EV : vw h = vw h := rfl
  refine x_iloadn (x := a1) rfl rfl ?_
  refine x_iconst (v := 3) rfl ki_3 ?_
  refine z_idiv rfl rfl jk_3 (by omega) (by omega) (fun v1 ev1 => ?_)
  refine x_iloadn (x := a2) rfl rfl ?_
  refine x_iconst (v := 3) rfl ki_3 ?_
  refine z_idiv rfl rfl jk_3 (by omega) (by omega) (fun v2 ev2 => ?_)
  refine x_icne (tgt := 11) rfl rfl (ti_ne rfl rfl ⟨fun c3 => ?_, fun c3 => ?_⟩)
  ·
    rw [if_neg (by omega)] at D
    refine x_aloadn (x := 78) rfl rfl ?_
    refine x_iloadn (x := a1) rfl rfl ?_
    refine x_iloadn (x := a2) rfl rfl ?_
    refine x_inv (N := m_X7_areApart) (As := [.int a1, .int a2]) (b := 78) (st := []) (dx9 := 2) (mc := 0) (ms := 0) (host := "") 7 rfl t_X7_areApart ⟨Or.inl q_7_88, i_X7_areApart.1, i_X7_areApart.2⟩ ⟨by decide, rfl⟩ (congrArg Prod.fst (J.1.1 78 (7, 16) rfl)) rfl (by decide) rfl rfl ⟨by decide, by decide⟩ (sf_X7_areApart_r78d (jr_of rfl (by omega)) (jr_of rfl (by omega)) hD J rfl  (fun v7 h ev7 J S4 X5 X6 => ?_))
    have Sm := jSm_tr rfl Sm S4
    try rw [X5] at D
    try rw [← X6] at D
    have EV := X6.trans EV
    show jX m_X7_reasonFor 3 0 0 17 [(0, .ref 78), (1, .int a1), (2, .int a2)] [.int v7] _ 0 0 _
    refine x_ifeq (tgt := 22) rfl rfl (ti_eq rfl jk_0 ⟨fun c8 => ?_, fun c8 => ?_⟩)
    ·
      rw [if_pos (by omega)] at D
      refine x_aloadn (x := 78) rfl rfl ?_
      refine z_getR (N := 16) (b := 70) 7 1 rfl f_7_59 rfl J rfl 9985 ⟨rfl, rfl⟩ rfl ?_
      refine x_iloadn (x := a1) rfl rfl ?_
      refine x_iloadn (x := a2) rfl rfl ?_
      refine x_iconst (v := 0) rfl ki_0 ?_
      refine x_inv (N := m_X5_differ) (As := [.int a1, .int a2, .int 0]) (b := 70) (st := []) (dx9 := 1) (mc := 0) (ms := 0) (host := "") 5 rfl t_X5_differ ⟨Or.inl q_7_92, i_X5_differ.1, i_X5_differ.2⟩ ⟨by decide, rfl⟩ (congrArg Prod.fst (J.1.1 70 (5, 9) rfl)) rfl (by decide) rfl rfl ⟨by decide, by decide⟩ (sf_X5_differ_r70d (jr_of rfl (by omega)) (jr_of rfl (by omega)) (jr_of jk_0 (by omega)) hD J rfl  (fun v12 h ev12 J S9 X10 X11 => ?_))
      have Sm := jSm_tr rfl Sm S9
      try rw [jk_0] at X10
      try rw [X10] at D
      try rw [← X11] at D
      have EV := X11.trans EV
      show jX m_X7_reasonFor 3 0 0 32 [(0, .ref 78), (1, .int a1), (2, .int a2)] [.int v12] _ 0 0 _
      refine x_ifeq (tgt := 37) rfl rfl (ti_eq rfl jk_0 ⟨fun c13 => ?_, fun c13 => ?_⟩)
      ·
        rw [if_pos (by omega)] at D
        refine x_aloadn (x := 78) rfl rfl ?_
        refine x_iloadn (x := a1) rfl rfl ?_
        refine x_inv (N := m_X7_isWoman) (As := [.int a1]) (b := 78) (st := []) (dx9 := 2) (mc := 0) (ms := 0) (host := "") 7 rfl t_X7_isWoman ⟨Or.inl q_7_98, i_X7_isWoman.1, i_X7_isWoman.2⟩ ⟨by decide, rfl⟩ (congrArg Prod.fst (J.1.1 78 (7, 16) rfl)) rfl (by decide) rfl rfl ⟨by decide, by decide⟩ (jC.of rfl k_X7_isWoman rfl ?_)
        show jX m_X7_isWoman 2 0 0 0 [(0, .ref 78), (1, .int a1)] [] _ 0 0 _
        refine x_aloadn (x := 78) rfl rfl ?_
        refine z_getR (N := 16) (b := 79) 7 7 rfl f_7_27 rfl J rfl 9991 ⟨rfl, rfl⟩ rfl ?_
        refine x_iloadn (x := a1) rfl rfl ?_
        refine z_iald (N := 600) rfl J rfl sg_79_0_600_1_0_1 rfl (by omega) (fun v14 qv14 ev14 => ?_)
        try rw [vrd qv14 (show a1.toInt = a1.toInt from by omega)] at D
        refine x_iconst (v := 4) rfl ki_4 ?_
        refine x_iceq (tgt := 20) rfl rfl (ti_eq rfl jk_4 ⟨fun c15 => ?_, fun c15 => ?_⟩)
        ·
          rw [if_pos (by omega)] at D
          refine x_iconst (v := 1) rfl ki_1 ?_
          refine x_goto (tgt := 25) rfl rfl ?_
          refine x_zret rfl rfl (by decide) ?_
          show jX m_X7_reasonFor 3 0 0 42 [(0, .ref 78), (1, .int a1), (2, .int a2)] [.int 1] _ 0 0 _
          refine x_ifne (tgt := 68) rfl rfl (ti_ne jk_1 jk_0 (bn_t (by omega) ?_))
          exact jX.sub (jsb_c rfl (jsb_c rfl (jsb_c rfl jsb_n))) (ct_X7_reasonFor_r78d_68 hD hQ  a1 a2 h (jr_of rfl (by omega)) (jr_of rfl (by omega)) J Sm D EV)
        ·
          rw [if_neg (by omega)] at D
          refine x_aloadn (x := 78) rfl rfl ?_
          refine z_getR (N := 16) (b := 79) 7 7 rfl f_7_27 rfl J rfl 9991 ⟨rfl, rfl⟩ rfl ?_
          refine x_iloadn (x := a1) rfl rfl ?_
          refine z_ialdM (N := 600) (v := v14) rfl J rfl rfl (by omega) qv14 ?_
          refine x_iconst (v := 2) rfl ki_2 ?_
          refine x_icne (tgt := 24) rfl rfl (ti_ne rfl jk_2 ⟨fun c16 => ?_, fun c16 => ?_⟩)
          ·
            rw [if_neg (by omega)] at D
            refine x_iconst (v := 0) rfl ki_0 ?_
            refine x_zret rfl rfl (by decide) ?_
            show jX m_X7_reasonFor 3 0 0 42 [(0, .ref 78), (1, .int a1), (2, .int a2)] [.int 0] _ 0 0 _
            refine x_ifne (tgt := 68) rfl rfl (ti_ne jk_0 jk_0 (bn_f (by omega) ?_))
            refine x_aloadn (x := 78) rfl rfl ?_
            refine x_iloadn (x := a2) rfl rfl ?_
            refine x_inv (N := m_X7_isWoman) (As := [.int a2]) (b := 78) (st := []) (dx9 := 2) (mc := 0) (ms := 0) (host := "") 7 rfl t_X7_isWoman ⟨Or.inl q_7_98, i_X7_isWoman.1, i_X7_isWoman.2⟩ ⟨by decide, rfl⟩ (congrArg Prod.fst (J.1.1 78 (7, 16) rfl)) rfl (by decide) rfl rfl ⟨by decide, by decide⟩ (jC.of rfl k_X7_isWoman rfl ?_)
            show jX m_X7_isWoman 2 0 0 0 [(0, .ref 78), (1, .int a2)] [] _ 0 0 _
            refine x_aloadn (x := 78) rfl rfl ?_
            refine z_getR (N := 16) (b := 79) 7 7 rfl f_7_27 rfl J rfl 9991 ⟨rfl, rfl⟩ rfl ?_
            refine x_iloadn (x := a2) rfl rfl ?_
            refine z_iald (N := 600) rfl J rfl sg_79_0_600_1_0_1 rfl (by omega) (fun v17 qv17 ev17 => ?_)
            try rw [vrd qv17 (show a2.toInt = a2.toInt from by omega)] at D
            refine x_iconst (v := 4) rfl ki_4 ?_
            refine x_iceq (tgt := 20) rfl rfl (ti_eq rfl jk_4 ⟨fun c18 => ?_, fun c18 => ?_⟩)
            ·
              rw [if_pos (by omega)] at D
              refine x_iconst (v := 1) rfl ki_1 ?_
              refine x_goto (tgt := 25) rfl rfl ?_
              refine x_zret rfl rfl (by decide) ?_
              show jX m_X7_reasonFor 3 0 0 50 [(0, .ref 78), (1, .int a1), (2, .int a2)] [.int 1] _ 0 0 _
              refine x_ifne (tgt := 68) rfl rfl (ti_ne jk_1 jk_0 (bn_t (by omega) ?_))
              exact jX.sub (jsb_c rfl (jsb_c rfl (jsb_c rfl jsb_n))) (ct_X7_reasonFor_r78d_68 hD hQ  a1 a2 h (jr_of rfl (by omega)) (jr_of rfl (by omega)) J Sm D EV)
            ·
              rw [if_neg (by omega)] at D
              refine x_aloadn (x := 78) rfl rfl ?_
              refine z_getR (N := 16) (b := 79) 7 7 rfl f_7_27 rfl J rfl 9991 ⟨rfl, rfl⟩ rfl ?_
              refine x_iloadn (x := a2) rfl rfl ?_
              refine z_ialdM (N := 600) (v := v17) rfl J rfl rfl (by omega) qv17 ?_
              refine x_iconst (v := 2) rfl ki_2 ?_
              refine x_icne (tgt := 24) rfl rfl (ti_ne rfl jk_2 ⟨fun c19 => ?_, fun c19 => ?_⟩)
              ·
                rw [if_neg (by omega)] at D
                refine x_iconst (v := 0) rfl ki_0 ?_
                refine x_zret rfl rfl (by decide) ?_
                show jX m_X7_reasonFor 3 0 0 50 [(0, .ref 78), (1, .int a1), (2, .int a2)] [.int 0] _ 0 0 _
                refine x_ifne (tgt := 68) rfl rfl (ti_ne jk_0 jk_0 (bn_f (by omega) ?_))
                refine x_aloadn (x := 78) rfl rfl ?_
                refine z_getR (N := 16) (b := 70) 7 1 rfl f_7_59 rfl J rfl 9985 ⟨rfl, rfl⟩ rfl ?_
                refine x_iloadn (x := a1) rfl rfl ?_
                refine x_iloadn (x := a2) rfl rfl ?_
                refine x_iconst (v := 1) rfl ki_1 ?_
                refine x_inv (N := m_X5_differ) (As := [.int a1, .int a2, .int 1]) (b := 70) (st := []) (dx9 := 1) (mc := 0) (ms := 0) (host := "") 5 rfl t_X5_differ ⟨Or.inl q_7_92, i_X5_differ.1, i_X5_differ.2⟩ ⟨by decide, rfl⟩ (congrArg Prod.fst (J.1.1 70 (5, 9) rfl)) rfl (by decide) rfl rfl ⟨by decide, by decide⟩ (sf_X5_differ_r70d (jr_of rfl (by omega)) (jr_of rfl (by omega)) (jr_of jk_1 (by omega)) hD J rfl  (fun v23 h ev23 J S20 X21 X22 => ?_))
                have Sm := jSm_tr rfl Sm S20
                try rw [jk_1] at X21
                try rw [X21] at D
                try rw [← X22] at D
                have EV := X22.trans EV
                show jX m_X7_reasonFor 3 0 0 63 [(0, .ref 78), (1, .int a1), (2, .int a2)] [.int v23] _ 0 0 _
                refine x_ifeq (tgt := 68) rfl rfl (ti_eq rfl jk_0 ⟨fun c24 => ?_, fun c24 => ?_⟩)
                ·
                  rw [if_pos (by omega)] at D
                  exact jX.sub (jsb_c rfl (jsb_c rfl (jsb_c rfl jsb_n))) (ct_X7_reasonFor_r78d_68 hD hQ  a1 a2 h (jr_of rfl (by omega)) (jr_of rfl (by omega)) J Sm D EV)
                ·
                  rw [if_neg (by omega)] at D
                  refine x_iconst (v := 4) rfl ki_4 ?_
                  refine x_iret rfl rfl ?_
                  exact hQ _ _ (jr_of jk_4 (by omega)) J Sm (D.symm.trans (show 4 = (4 : Int32).toInt from by have := jk_4; omega)) EV
              ·
                rw [if_pos (by omega)] at D
                refine x_iconst (v := 1) rfl ki_1 ?_
                refine x_goto (tgt := 25) rfl rfl ?_
                refine x_zret rfl rfl (by decide) ?_
                show jX m_X7_reasonFor 3 0 0 50 [(0, .ref 78), (1, .int a1), (2, .int a2)] [.int 1] _ 0 0 _
                refine x_ifne (tgt := 68) rfl rfl (ti_ne jk_1 jk_0 (bn_t (by omega) ?_))
                exact jX.sub (jsb_c rfl (jsb_c rfl (jsb_c rfl jsb_n))) (ct_X7_reasonFor_r78d_68 hD hQ  a1 a2 h (jr_of rfl (by omega)) (jr_of rfl (by omega)) J Sm D EV)
          ·
            rw [if_pos (by omega)] at D
            refine x_iconst (v := 1) rfl ki_1 ?_
            refine x_goto (tgt := 25) rfl rfl ?_
            refine x_zret rfl rfl (by decide) ?_
            show jX m_X7_reasonFor 3 0 0 42 [(0, .ref 78), (1, .int a1), (2, .int a2)] [.int 1] _ 0 0 _
            refine x_ifne (tgt := 68) rfl rfl (ti_ne jk_1 jk_0 (bn_t (by omega) ?_))
            exact jX.sub (jsb_c rfl (jsb_c rfl (jsb_c rfl jsb_n))) (ct_X7_reasonFor_r78d_68 hD hQ  a1 a2 h (jr_of rfl (by omega)) (jr_of rfl (by omega)) J Sm D EV)
      ·
        rw [if_neg (by omega)] at D
        refine x_iconst (v := 3) rfl ki_3 ?_
        refine x_iret rfl rfl ?_
        exact hQ _ _ (jr_of jk_3 (by omega)) J Sm (D.symm.trans (show 3 = (3 : Int32).toInt from by have := jk_3; omega)) EV
    ·
      rw [if_neg (by omega)] at D
      refine x_iconst (v := 2) rfl ki_2 ?_
      refine x_iret rfl rfl ?_
      exact hQ _ _ (jr_of jk_2 (by omega)) J Sm (D.symm.trans (show 2 = (2 : Int32).toInt from by have := jk_2; omega)) EV
  ·
    rw [if_pos (by omega)] at D
    refine x_iconst (v := 1) rfl ki_1 ?_
    refine x_iret rfl rfl ?_
    exact hQ _ _ (jr_of jk_1 (by omega)) J Sm (D.symm.trans (show 1 = (1 : Int32).toInt from by have := jk_1; omega)) EV
def fp_X7_mayBeOne_r78d : jFp := []
set_option maxRecDepth 100000 in
set_option maxHeartbeats 4000000 in
theorem ct_X7_mayBeOne_r78d_78 {Dy : jH → Prop} {h0 : jH} {Q : Option Value → jH → Prop} {dr : Int} (hD : jDk Dy) (hQ : ∀ (v : Int32) hx9, 0 ≤ v.toInt ∧ v.toInt ≤ 1 → jJ jSgX Dy hx9 → jSm fp_X7_mayBeOne_r78d h0 hx9 → dr = v.toInt → vw hx9 = vw h0 → Q (some (.int v)) hx9) : ∀ (h : jH), jJ jSgX Dy h → jSm fp_X7_mayBeOne_r78d h0 h → d_X7_mayBeOne_r78d_78  (vw h) = dr → vw h = vw h0 → jX m_X7_mayBeOne 4 0 0 78 [] [] h 0 0 Q := by
  intro  h    J Sm D EV
  unfold d_X7_mayBeOne_r78d_78 at D
  refine x_iconst (v := 1) rfl ki_1 ?_
  refine x_zret rfl rfl (by decide) ?_
  exact hQ _ _ (jr_of jk_1 (by omega)) J Sm (D.symm.trans (show 1 = (1 : Int32).toInt from by have := jk_1; omega)) EV
set_option maxRecDepth 100000 in
set_option maxHeartbeats 4000000 in
theorem ct_X7_mayBeOne_r78d_65 {Dy : jH → Prop} {h0 : jH} {Q : Option Value → jH → Prop} {dr : Int} {K5 : Int → Int → Int → jW → Int} {R5 : Int} (hD : jDk Dy) (hQ : ∀ (v : Int32) hx9, 0 ≤ v.toInt ∧ v.toInt ≤ 1 → jJ jSgX Dy hx9 → jSm fp_X7_mayBeOne_r78d h0 hx9 → dr = v.toInt → vw hx9 = vw h0 → Q (some (.int v)) hx9) (k5 : ∀ (l2 : Int32) (l3 : Int32) (l4 : Int32) (h : jH), 600 - l4.toInt < R5 → 0 ≤ l2.toInt ∧ l2.toInt ≤ 599 → (-1) ≤ l3.toInt ∧ l3.toInt ≤ 599 → 0 ≤ l4.toInt ∧ l4.toInt ≤ 600 → jJ jSgX Dy h → jSm fp_X7_mayBeOne_r78d h0 h → K5 l2.toInt l3.toInt l4.toInt (vw h) = dr → vw h = vw h0 → jX m_X7_mayBeOne 4 0 0 5 [(0, .ref 78), (2, .int l2), (3, .int l3), (4, .int l4)] [] h 0 0 Q) : ∀ (l2 : Int32) (l3 : Int32) (l4 : Int32) (h : jH), 0 ≤ l2.toInt ∧ l2.toInt ≤ 599 → 0 ≤ l3.toInt ∧ l3.toInt ≤ 599 → 0 ≤ l4.toInt ∧ l4.toInt ≤ 599 → 600 - l4.toInt ≤ R5 → jJ jSgX Dy h → jSm fp_X7_mayBeOne_r78d h0 h → d_X7_mayBeOne_r78d_65 K5  l2.toInt l3.toInt l4.toInt (vw h) = dr → vw h = vw h0 → jX m_X7_mayBeOne 4 0 0 65 [(0, .ref 78), (2, .int l2), (3, .int l3), (4, .int l4)] [] h 0 0 Q := by
  intro l2 l3 l4 h y0 y1 y2  m5 J Sm D EV
  unfold d_X7_mayBeOne_r78d_65 at D
  refine x_aloadn (x := 78) rfl rfl ?_
  refine z_getR (N := 16) (b := 83) 7 11 rfl f_7_40 rfl J rfl 9995 ⟨rfl, rfl⟩ rfl ?_
  refine x_iloadn (x := l3) rfl rfl ?_
  refine z_iald (N := 600) rfl J rfl sg_83_0_600_1_0_1 rfl (by omega) (fun v1 qv1 ev1 => ?_)
  try rw [vrd qv1 (show l3.toInt = l3.toInt from by omega)] at D
  refine x_istoren (lsx9 := [(3, .int v1), (0, .ref 78), (2, .int l2), (4, .int l4)]) rfl rfl rfl ?_
  refine z_iinc (x := l4) (lsx9 := fun v2 => [(4, .int v2), (3, .int v1), (0, .ref 78), (2, .int l2)]) rfl rfl rfl jko_1 (by omega) rfl (fun _ => rfl) (fun v2 ev2 => ?_)
  refine x_goto (tgt := 5) rfl rfl ?_
  try rw [show (l4.toInt + 1) = v2.toInt from by omega] at D
  exact jX.sub (jsb_c rfl (jsb_c rfl (jsb_c rfl (jsb_c rfl jsb_n)))) (k5 l2 v1 v2 h (by omega) (jr_of rfl (by omega)) (jr_of rfl (by omega)) (jr_of rfl (by omega)) J Sm D EV)
set_option maxRecDepth 100000 in
set_option maxHeartbeats 4000000 in
theorem ct_X7_mayBeOne_r78d_24 {Dy : jH → Prop} {h0 : jH} {Q : Option Value → jH → Prop} {dr : Int} {K5 : Int → Int → Int → jW → Int} {R5 : Int} (hD : jDk Dy) (hQ : ∀ (v : Int32) hx9, 0 ≤ v.toInt ∧ v.toInt ≤ 1 → jJ jSgX Dy hx9 → jSm fp_X7_mayBeOne_r78d h0 hx9 → dr = v.toInt → vw hx9 = vw h0 → Q (some (.int v)) hx9) (k5 : ∀ (l2 : Int32) (l3 : Int32) (l4 : Int32) (h : jH), 600 - l4.toInt < R5 → 0 ≤ l2.toInt ∧ l2.toInt ≤ 599 → (-1) ≤ l3.toInt ∧ l3.toInt ≤ 599 → 0 ≤ l4.toInt ∧ l4.toInt ≤ 600 → jJ jSgX Dy h → jSm fp_X7_mayBeOne_r78d h0 h → K5 l2.toInt l3.toInt l4.toInt (vw h) = dr → vw h = vw h0 → jX m_X7_mayBeOne 4 0 0 5 [(0, .ref 78), (2, .int l2), (3, .int l3), (4, .int l4)] [] h 0 0 Q) : ∀ r : Nat, ∀ (l2 : Int32) (l3 : Int32) (l4 : Int32) (l5 : Int32) (l6 : Int32) (h : jH), 600 - l6.toInt < (r : Int) → 0 ≤ l2.toInt ∧ l2.toInt ≤ 599 → 0 ≤ l3.toInt ∧ l3.toInt ≤ 599 → 0 ≤ l4.toInt ∧ l4.toInt ≤ 599 → (-1) ≤ l5.toInt ∧ l5.toInt ≤ 599 → 0 ≤ l6.toInt ∧ l6.toInt ≤ 600 → 600 - l4.toInt ≤ R5 → jJ jSgX Dy h → jSm fp_X7_mayBeOne_r78d h0 h → d_X7_mayBeOne_r78d_24 K5 r l2.toInt l3.toInt l4.toInt l5.toInt l6.toInt (vw h) = dr → vw h = vw h0 → jX m_X7_mayBeOne 4 0 0 24 [(0, .ref 78), (2, .int l2), (3, .int l3), (4, .int l4), (5, .int l5), (6, .int l6)] [] h 0 0 Q := by
  intro r
  induction r with
  | zero =>
    intro l2 l3 l4 l5 l6 h hm y0 y1 y2 y3 y4  m5 J Sm D EV
    exfalso
    omega
  | succ r ih =>
    intro l2 l3 l4 l5 l6 h hm y0 y1 y2 y3 y4  m5 J Sm D EV
    rw [d_X7_mayBeOne_r78d_24.eq_2] at D
    refine x_iload (x := l5) rfl rfl ?_
    refine x_iconst (v := (-1)) rfl ki_m1 ?_
    refine x_iceq (tgt := 65) rfl rfl (ti_eq rfl jk_m1 ⟨fun c1 => ?_, fun c1 => ?_⟩)
    ·
      rw [if_pos (by omega)] at D
      exact jX.sub (jsb_c rfl (jsb_c rfl (jsb_c rfl (jsb_c rfl jsb_n)))) (ct_X7_mayBeOne_r78d_65 hD hQ k5 l2 l3 l4 h (jr_of rfl (by omega)) (jr_of rfl (by omega)) (jr_of rfl (by omega)) (by omega) J Sm D EV)
    ·
      rw [if_neg (by omega)] at D
      refine x_iload (x := l6) rfl rfl ?_
      refine x_sipush (v := 600) rfl ks_600 ?_
      refine x_icge (tgt := 65) rfl rfl (ti_ge rfl jk_600 ⟨fun c2 => ?_, fun c2 => ?_⟩)
      ·
        rw [if_pos (by omega)] at D
        exact jX.sub (jsb_c rfl (jsb_c rfl (jsb_c rfl (jsb_c rfl jsb_n)))) (ct_X7_mayBeOne_r78d_65 hD hQ k5 l2 l3 l4 h (jr_of rfl (by omega)) (jr_of rfl (by omega)) (jr_of rfl (by omega)) (by omega) J Sm D EV)
      ·
        rw [if_neg (by omega)] at D
        refine x_aloadn (x := 78) rfl rfl ?_
        refine x_iloadn (x := l3) rfl rfl ?_
        refine x_iload (x := l5) rfl rfl ?_
        refine x_inv (N := m_X7_reasonFor) (As := [.int l3, .int l5]) (b := 78) (st := []) (dx9 := 3) (mc := 0) (ms := 0) (host := "") 7 rfl t_X7_reasonFor ⟨Or.inl q_7_125, i_X7_reasonFor.1, i_X7_reasonFor.2⟩ ⟨by decide, rfl⟩ (congrArg Prod.fst (J.1.1 78 (7, 16) rfl)) rfl (by decide) rfl rfl ⟨by decide, by decide⟩ (sf_X7_reasonFor_r78d (jr_of rfl (by omega)) (jr_of rfl (by omega)) hD J rfl  (fun v6 h ev6 J S3 X4 X5 => ?_))
        have Sm := jSm_tr rfl Sm S3
        try rw [X4] at D
        try rw [← X5] at D
        have EV := X5.trans EV
        show jX m_X7_mayBeOne 4 0 0 45 [(0, .ref 78), (2, .int l2), (3, .int l3), (4, .int l4), (5, .int l5), (6, .int l6)] [.int v6] _ 0 0 _
        refine x_ifeq (tgt := 50) rfl rfl (ti_eq rfl jk_0 ⟨fun c7 => ?_, fun c7 => ?_⟩)
        ·
          rw [if_pos (by omega)] at D
          refine x_aloadn (x := 78) rfl rfl ?_
          refine z_getR (N := 16) (b := 83) 7 11 rfl f_7_40 rfl J rfl 9995 ⟨rfl, rfl⟩ rfl ?_
          refine x_iload (x := l5) rfl rfl ?_
          refine z_iald (N := 600) rfl J rfl sg_83_0_600_1_0_1 rfl (by omega) (fun v8 qv8 ev8 => ?_)
          try rw [vrd qv8 (show l5.toInt = l5.toInt from by omega)] at D
          refine x_istore (lsx9 := [(5, .int v8), (0, .ref 78), (2, .int l2), (3, .int l3), (4, .int l4), (6, .int l6)]) rfl rfl rfl ?_
          refine z_iinc (x := l6) (lsx9 := fun v9 => [(6, .int v9), (5, .int v8), (0, .ref 78), (2, .int l2), (3, .int l3), (4, .int l4)]) rfl rfl rfl jko_1 (by omega) rfl (fun _ => rfl) (fun v9 ev9 => ?_)
          refine x_goto (tgt := 24) rfl rfl ?_
          try rw [show (l6.toInt + 1) = v9.toInt from by omega] at D
          exact jX.sub (jsb_c rfl (jsb_c rfl (jsb_c rfl (jsb_c rfl (jsb_c rfl (jsb_c rfl jsb_n)))))) (ih l2 l3 l4 v8 v9 h (by omega) (jr_of rfl (by omega)) (jr_of rfl (by omega)) (jr_of rfl (by omega)) (jr_of rfl (by omega)) (jr_of rfl (by omega)) (by omega) J Sm D EV)
        ·
          rw [if_neg (by omega)] at D
          refine x_iconst (v := 0) rfl ki_0 ?_
          refine x_zret rfl rfl (by decide) ?_
          exact hQ _ _ (jr_of jk_0 (by omega)) J Sm (D.symm.trans (show 0 = (0 : Int32).toInt from by have := jk_0; omega)) EV
set_option maxRecDepth 100000 in
set_option maxHeartbeats 4000000 in
theorem ct_X7_mayBeOne_r78d_5 {Dy : jH → Prop} {h0 : jH} {Q : Option Value → jH → Prop} {dr : Int} (hD : jDk Dy) (hQ : ∀ (v : Int32) hx9, 0 ≤ v.toInt ∧ v.toInt ≤ 1 → jJ jSgX Dy hx9 → jSm fp_X7_mayBeOne_r78d h0 hx9 → dr = v.toInt → vw hx9 = vw h0 → Q (some (.int v)) hx9) : ∀ r : Nat, ∀ (l2 : Int32) (l3 : Int32) (l4 : Int32) (h : jH), 600 - l4.toInt < (r : Int) → 0 ≤ l2.toInt ∧ l2.toInt ≤ 599 → (-1) ≤ l3.toInt ∧ l3.toInt ≤ 599 → 0 ≤ l4.toInt ∧ l4.toInt ≤ 600 → jJ jSgX Dy h → jSm fp_X7_mayBeOne_r78d h0 h → d_X7_mayBeOne_r78d_5 r l2.toInt l3.toInt l4.toInt (vw h) = dr → vw h = vw h0 → jX m_X7_mayBeOne 4 0 0 5 [(0, .ref 78), (2, .int l2), (3, .int l3), (4, .int l4)] [] h 0 0 Q := by
  intro r
  induction r with
  | zero =>
    intro l2 l3 l4 h hm y0 y1 y2   J Sm D EV
    exfalso
    omega
  | succ r ih =>
    intro l2 l3 l4 h hm y0 y1 y2   J Sm D EV
    rw [d_X7_mayBeOne_r78d_5.eq_2] at D
    refine x_iloadn (x := l3) rfl rfl ?_
    refine x_iconst (v := (-1)) rfl ki_m1 ?_
    refine x_iceq (tgt := 78) rfl rfl (ti_eq rfl jk_m1 ⟨fun c1 => ?_, fun c1 => ?_⟩)
    ·
      rw [if_pos (by omega)] at D
      exact jX.sub jsb_n (ct_X7_mayBeOne_r78d_78 hD hQ  h J Sm D EV)
    ·
      rw [if_neg (by omega)] at D
      refine x_iload (x := l4) rfl rfl ?_
      refine x_sipush (v := 600) rfl ks_600 ?_
      refine x_icge (tgt := 78) rfl rfl (ti_ge rfl jk_600 ⟨fun c2 => ?_, fun c2 => ?_⟩)
      ·
        rw [if_pos (by omega)] at D
        exact jX.sub jsb_n (ct_X7_mayBeOne_r78d_78 hD hQ  h J Sm D EV)
      ·
        rw [if_neg (by omega)] at D
        refine x_iloadn (x := l2) rfl rfl ?_
        refine x_istore (lsx9 := [(5, .int l2), (0, .ref 78), (2, .int l2), (3, .int l3), (4, .int l4)]) rfl rfl rfl ?_
        refine x_iconst (v := 0) rfl ki_0 ?_
        refine x_istore (lsx9 := [(6, .int 0), (5, .int l2), (0, .ref 78), (2, .int l2), (3, .int l3), (4, .int l4)]) rfl rfl rfl ?_
        exact jX.sub (jsb_c rfl (jsb_c rfl (jsb_c rfl (jsb_c rfl (jsb_c rfl (jsb_c rfl jsb_n)))))) (ct_X7_mayBeOne_r78d_24 hD hQ ih 601 l2 l3 l4 l2 0 h (by have := jk_0; omega) (jr_of rfl (by omega)) (jr_of rfl (by omega)) (jr_of rfl (by omega)) (jr_of rfl (by omega)) (jr_of jk_0 (by omega)) (by omega) J Sm (by rw [jk_0]; exact D) EV)
set_option maxRecDepth 100000 in
set_option maxHeartbeats 4000000 in
theorem sf_X7_mayBeOne_r78d {Dy : jH → Prop} {h : jH} {Q : Option Value → jH → Prop} {dr : Int} {a1 : Int32} {a2 : Int32} (y1 : 0 ≤ a1.toInt ∧ a1.toInt ≤ 599) (y2 : 0 ≤ a2.toInt ∧ a2.toInt ≤ 599) (hD : jDk Dy) (J : jJ jSgX Dy h) (D : d_X7_mayBeOne_r78d a1.toInt a2.toInt (vw h) = dr) (hQ : ∀ (v : Int32) hx9, 0 ≤ v.toInt ∧ v.toInt ≤ 1 → jJ jSgX Dy hx9 → jSm fp_X7_mayBeOne_r78d h hx9 → dr = v.toInt → vw hx9 = vw h → Q (some (.int v)) hx9) : jC m_X7_mayBeOne 4 0 0 [.ref 78, .int a1, .int a2] h Q := by
  refine jC.of rfl k_X7_mayBeOne rfl ?_
  have Sm := jSm_rf fp_X7_mayBeOne_r78d h
  show jX m_X7_mayBeOne 4 0 0 0 [(0, .ref 78), (1, .int a1), (2, .int a2)] [] _ 0 0 _
  unfold d_X7_mayBeOne_r78d at D
  have EV : vw h = vw h := rfl
  refine x_iloadn (x := a1) rfl rfl ?_
  refine x_istoren (lsx9 := [(3, .int a1), (0, .ref 78), (1, .int a1), (2, .int a2)]) rfl rfl rfl ?_
  refine x_iconst (v := 0) rfl ki_0 ?_
  refine x_istore (lsx9 := [(4, .int 0), (3, .int a1), (0, .ref 78), (1, .int a1), (2, .int a2)]) rfl rfl rfl ?_
  exact jX.sub (jsb_c rfl (jsb_c rfl (jsb_c rfl (jsb_c rfl jsb_n)))) (ct_X7_mayBeOne_r78d_5 hD hQ  601 a2 a1 0 h (by have := jk_0; omega) (jr_of rfl (by omega)) (jr_of rfl (by omega)) (jr_of jk_0 (by omega)) J Sm (by rw [jk_0]; exact D) EV)
def fp_X7_merge_r78d : jFp := [(82, 0, 600), (83, 0, 600)]
set_option maxRecDepth 100000 in
set_option maxHeartbeats 4000000 in
theorem ct_X7_merge_r78d_100 {Dy : jH → Prop} {h0 : jH} {Q : Option Value → jH → Prop} {dr : jW} (hD : jDk Dy) (hQ : ∀ hx9, jJ jSgX Dy hx9 → jSm fp_X7_merge_r78d h0 hx9 → dr = vw hx9 → Q none hx9) : ∀ (l3 : Int32) (l4 : Int32) (h : jH), 0 ≤ l3.toInt ∧ l3.toInt ≤ 599 → (-1) ≤ l4.toInt ∧ l4.toInt ≤ 599 → jJ jSgX Dy h → jSm fp_X7_merge_r78d h0 h → d_X7_merge_r78d_100  l3.toInt l4.toInt (vw h) = dr → jX m_X7_merge 1 0 0 100 [(0, .ref 78), (3, .int l3), (4, .int l4)] [] h 0 0 Q := by
  intro l3 l4 h y0 y1   J Sm D
  unfold d_X7_merge_r78d_100 at D
  refine x_aloadn (x := 78) rfl rfl ?_
  refine z_getR (N := 16) (b := 83) 7 11 rfl f_7_40 rfl J rfl 9995 ⟨rfl, rfl⟩ rfl ?_
  refine x_iloadn (x := l3) rfl rfl ?_
  refine x_iload (x := l4) rfl rfl ?_
  refine z_iast (N := 600) (l := 0) (u := 600) (w := l4.toInt) rfl hD J Sm rfl rfl rfl (by omega) rfl (wr_83 (fun q1 q2 q3 q4 => by omega)) rfl (fun h w1 J Sm => ?_)
  rw [vww w1 (show l3.toInt = l3.toInt from by omega) (show l4.toInt = l4.toInt from by omega)] at D
  refine x_vret rfl rfl ?_
  exact hQ _ J Sm D.symm
set_option maxRecDepth 100000 in
set_option maxHeartbeats 4000000 in
theorem ct_X7_merge_r78d_94 {Dy : jH → Prop} {h0 : jH} {Q : Option Value → jH → Prop} {dr : jW} {K16 : Int → Int → Int → Int → Int → jW → jW} {R16 : Int} (hD : jDk Dy) (hQ : ∀ hx9, jJ jSgX Dy hx9 → jSm fp_X7_merge_r78d h0 hx9 → dr = vw hx9 → Q none hx9) (k16 : ∀ (l1 : Int32) (l3 : Int32) (l4 : Int32) (l5 : Int32) (l6 : Int32) (h : jH), 600 - l6.toInt < R16 → 0 ≤ l1.toInt ∧ l1.toInt ≤ 599 → 0 ≤ l3.toInt ∧ l3.toInt ≤ 599 → (-1) ≤ l4.toInt ∧ l4.toInt ≤ 599 → (-1) ≤ l5.toInt ∧ l5.toInt ≤ 599 → 0 ≤ l6.toInt ∧ l6.toInt ≤ 600 → jJ jSgX Dy h → jSm fp_X7_merge_r78d h0 h → K16 l1.toInt l3.toInt l4.toInt l5.toInt l6.toInt (vw h) = dr → jX m_X7_merge 1 0 0 16 [(0, .ref 78), (1, .int l1), (3, .int l3), (4, .int l4), (5, .int l5), (6, .int l6)] [] h 0 0 Q) : ∀ (l1 : Int32) (l3 : Int32) (l4 : Int32) (l5 : Int32) (l6 : Int32) (h : jH), 0 ≤ l1.toInt ∧ l1.toInt ≤ 599 → 0 ≤ l3.toInt ∧ l3.toInt ≤ 599 → (-1) ≤ l4.toInt ∧ l4.toInt ≤ 599 → (-1) ≤ l5.toInt ∧ l5.toInt ≤ 599 → 0 ≤ l6.toInt ∧ l6.toInt ≤ 599 → 600 - l6.toInt ≤ R16 → jJ jSgX Dy h → jSm fp_X7_merge_r78d h0 h → d_X7_merge_r78d_94 K16  l1.toInt l3.toInt l4.toInt l5.toInt l6.toInt (vw h) = dr → jX m_X7_merge 1 0 0 94 [(0, .ref 78), (1, .int l1), (3, .int l3), (4, .int l4), (5, .int l5), (6, .int l6)] [] h 0 0 Q := by
  intro l1 l3 l4 l5 l6 h y0 y1 y2 y3 y4  m16 J Sm D
  unfold d_X7_merge_r78d_94 at D
  refine z_iinc (x := l6) (lsx9 := fun v1 => [(6, .int v1), (0, .ref 78), (1, .int l1), (3, .int l3), (4, .int l4), (5, .int l5)]) rfl rfl rfl jko_1 (by omega) rfl (fun _ => rfl) (fun v1 ev1 => ?_)
  refine x_goto (tgt := 16) rfl rfl ?_
  try rw [show (l6.toInt + 1) = v1.toInt from by omega] at D
  exact jX.sub (jsb_c rfl (jsb_c rfl (jsb_c rfl (jsb_c rfl (jsb_c rfl (jsb_c rfl jsb_n)))))) (k16 l1 l3 l4 l5 v1 h (by omega) (jr_of rfl (by omega)) (jr_of rfl (by omega)) (jr_of rfl (by omega)) (jr_of rfl (by omega)) (jr_of rfl (by omega)) J Sm D)
set_option maxRecDepth 100000 in
set_option maxHeartbeats 4000000 in
theorem ct_X7_merge_r78d_66 {Dy : jH → Prop} {h0 : jH} {Q : Option Value → jH → Prop} {dr : jW} {K16 : Int → Int → Int → Int → Int → jW → jW} {R16 : Int} (hD : jDk Dy) (hQ : ∀ hx9, jJ jSgX Dy hx9 → jSm fp_X7_merge_r78d h0 hx9 → dr = vw hx9 → Q none hx9) (k16 : ∀ (l1 : Int32) (l3 : Int32) (l4 : Int32) (l5 : Int32) (l6 : Int32) (h : jH), 600 - l6.toInt < R16 → 0 ≤ l1.toInt ∧ l1.toInt ≤ 599 → 0 ≤ l3.toInt ∧ l3.toInt ≤ 599 → (-1) ≤ l4.toInt ∧ l4.toInt ≤ 599 → (-1) ≤ l5.toInt ∧ l5.toInt ≤ 599 → 0 ≤ l6.toInt ∧ l6.toInt ≤ 600 → jJ jSgX Dy h → jSm fp_X7_merge_r78d h0 h → K16 l1.toInt l3.toInt l4.toInt l5.toInt l6.toInt (vw h) = dr → jX m_X7_merge 1 0 0 16 [(0, .ref 78), (1, .int l1), (3, .int l3), (4, .int l4), (5, .int l5), (6, .int l6)] [] h 0 0 Q) : ∀ (l1 : Int32) (l3 : Int32) (l4 : Int32) (l5 : Int32) (l6 : Int32) (h : jH), 0 ≤ l1.toInt ∧ l1.toInt ≤ 599 → 0 ≤ l3.toInt ∧ l3.toInt ≤ 599 → (-1) ≤ l4.toInt ∧ l4.toInt ≤ 599 → 0 ≤ l5.toInt ∧ l5.toInt ≤ 599 → 0 ≤ l6.toInt ∧ l6.toInt ≤ 599 → 600 - l6.toInt ≤ R16 → jJ jSgX Dy h → jSm fp_X7_merge_r78d h0 h → d_X7_merge_r78d_66 K16  l1.toInt l3.toInt l4.toInt l5.toInt l6.toInt (vw h) = dr → jX m_X7_merge 1 0 0 66 [(0, .ref 78), (1, .int l1), (3, .int l3), (4, .int l4), (5, .int l5), (6, .int l6)] [] h 0 0 Q := by
  intro l1 l3 l4 l5 l6 h y0 y1 y2 y3 y4  m16 J Sm D
  unfold d_X7_merge_r78d_66 at D
  refine x_aloadn (x := 78) rfl rfl ?_
  refine z_getR (N := 16) (b := 83) 7 11 rfl f_7_40 rfl J rfl 9995 ⟨rfl, rfl⟩ rfl ?_
  refine x_iloadn (x := l3) rfl rfl ?_
  refine x_iload (x := l5) rfl rfl ?_
  refine z_iast (N := 600) (l := 0) (u := 600) (w := l5.toInt) rfl hD J Sm rfl rfl rfl (by omega) rfl (wr_83 (fun q1 q2 q3 q4 => by omega)) rfl (fun h w1 J Sm => ?_)
  rw [vww w1 (show l3.toInt = l3.toInt from by omega) (show l5.toInt = l5.toInt from by omega)] at D
  refine x_aloadn (x := 78) rfl rfl ?_
  refine z_getR (N := 16) (b := 82) 7 10 rfl f_7_37 rfl J rfl 9994 ⟨rfl, rfl⟩ rfl ?_
  refine x_iload (x := l5) rfl rfl ?_
  refine x_iloadn (x := l1) rfl rfl ?_
  refine z_iast (N := 600) (l := 0) (u := 600) (w := l1.toInt) rfl hD J Sm rfl rfl rfl (by omega) rfl (wr_82 (fun q1 q2 q3 q4 => by omega)) rfl (fun h w2 J Sm => ?_)
  rw [vww w2 (show l5.toInt = l5.toInt from by omega) (show l1.toInt = l1.toInt from by omega)] at D
  refine x_iload (x := l5) rfl rfl ?_
  refine x_istoren (lsx9 := [(3, .int l5), (0, .ref 78), (1, .int l1), (4, .int l4), (5, .int l5), (6, .int l6)]) rfl rfl rfl ?_
  refine x_aloadn (x := 78) rfl rfl ?_
  refine z_getR (N := 16) (b := 83) 7 11 rfl f_7_40 rfl J rfl 9995 ⟨rfl, rfl⟩ rfl ?_
  refine x_iload (x := l5) rfl rfl ?_
  refine z_iald (N := 600) rfl J rfl sg_83_0_600_1_0_1 rfl (by omega) (fun v3 qv3 ev3 => ?_)
  try rw [vrd (jmb_w w2 qv3 rfl) (show l5.toInt = l5.toInt from by omega)] at D
  refine x_istore (lsx9 := [(5, .int v3), (3, .int l5), (0, .ref 78), (1, .int l1), (4, .int l4), (6, .int l6)]) rfl rfl rfl ?_
  exact jX.sub (jsb_c rfl (jsb_c rfl (jsb_c rfl (jsb_c rfl (jsb_c rfl (jsb_c rfl jsb_n)))))) (ct_X7_merge_r78d_94 hD hQ k16 l1 l5 l4 v3 l6 h (jr_of rfl (by omega)) (jr_of rfl (by omega)) (jr_of rfl (by omega)) (jr_of rfl (by omega)) (jr_of rfl (by omega)) (by omega) J Sm D)
set_option maxRecDepth 100000 in
set_option maxHeartbeats 4000000 in
theorem ct_X7_merge_r78d_16 {Dy : jH → Prop} {h0 : jH} {Q : Option Value → jH → Prop} {dr : jW} (hD : jDk Dy) (hQ : ∀ hx9, jJ jSgX Dy hx9 → jSm fp_X7_merge_r78d h0 hx9 → dr = vw hx9 → Q none hx9) : ∀ r : Nat, ∀ (l1 : Int32) (l3 : Int32) (l4 : Int32) (l5 : Int32) (l6 : Int32) (h : jH), 600 - l6.toInt < (r : Int) → 0 ≤ l1.toInt ∧ l1.toInt ≤ 599 → 0 ≤ l3.toInt ∧ l3.toInt ≤ 599 → (-1) ≤ l4.toInt ∧ l4.toInt ≤ 599 → (-1) ≤ l5.toInt ∧ l5.toInt ≤ 599 → 0 ≤ l6.toInt ∧ l6.toInt ≤ 600 → jJ jSgX Dy h → jSm fp_X7_merge_r78d h0 h → d_X7_merge_r78d_16 r l1.toInt l3.toInt l4.toInt l5.toInt l6.toInt (vw h) = dr → jX m_X7_merge 1 0 0 16 [(0, .ref 78), (1, .int l1), (3, .int l3), (4, .int l4), (5, .int l5), (6, .int l6)] [] h 0 0 Q := by
  intro r
  induction r with
  | zero =>
    intro l1 l3 l4 l5 l6 h hm y0 y1 y2 y3 y4   J Sm D
    exfalso
    omega
  | succ r ih =>
    intro l1 l3 l4 l5 l6 h hm y0 y1 y2 y3 y4   J Sm D
    rw [d_X7_merge_r78d_16.eq_2] at D
    refine x_iload (x := l6) rfl rfl ?_
    refine x_sipush (v := 600) rfl ks_600 ?_
    refine x_icge (tgt := 100) rfl rfl (ti_ge rfl jk_600 ⟨fun c1 => ?_, fun c1 => ?_⟩)
    ·
      rw [if_pos (by omega)] at D
      exact jX.sub (jsb_c rfl (jsb_c rfl (jsb_c rfl jsb_n))) (ct_X7_merge_r78d_100 hD hQ  l3 l4 h (jr_of rfl (by omega)) (jr_of rfl (by omega)) J Sm D)
    ·
      rw [if_neg (by omega)] at D
      refine x_iload (x := l5) rfl rfl ?_
      refine x_iconst (v := (-1)) rfl ki_m1 ?_
      refine x_iceq (tgt := 100) rfl rfl (ti_eq rfl jk_m1 ⟨fun c2 => ?_, fun c2 => ?_⟩)
      ·
        rw [if_pos (by omega)] at D
        exact jX.sub (jsb_c rfl (jsb_c rfl (jsb_c rfl jsb_n))) (ct_X7_merge_r78d_100 hD hQ  l3 l4 h (jr_of rfl (by omega)) (jr_of rfl (by omega)) J Sm D)
      ·
        rw [if_neg (by omega)] at D
        refine x_iload (x := l4) rfl rfl ?_
        refine x_iconst (v := (-1)) rfl ki_m1 ?_
        refine x_iceq (tgt := 66) rfl rfl (ti_eq rfl jk_m1 ⟨fun c3 => ?_, fun c3 => ?_⟩)
        ·
          rw [if_pos (by omega)] at D
          exact jX.sub (jsb_c rfl (jsb_c rfl (jsb_c rfl (jsb_c rfl (jsb_c rfl (jsb_c rfl jsb_n)))))) (ct_X7_merge_r78d_66 hD hQ ih l1 l3 l4 l5 l6 h (jr_of rfl (by omega)) (jr_of rfl (by omega)) (jr_of rfl (by omega)) (jr_of rfl (by omega)) (jr_of rfl (by omega)) (by omega) J Sm D)
        ·
          rw [if_neg (by omega)] at D
          refine x_iload (x := l4) rfl rfl ?_
          refine x_iload (x := l5) rfl rfl ?_
          refine x_icge (tgt := 66) rfl rfl (ti_ge rfl rfl ⟨fun c4 => ?_, fun c4 => ?_⟩)
          ·
            rw [if_pos (by omega)] at D
            exact jX.sub (jsb_c rfl (jsb_c rfl (jsb_c rfl (jsb_c rfl (jsb_c rfl (jsb_c rfl jsb_n)))))) (ct_X7_merge_r78d_66 hD hQ ih l1 l3 l4 l5 l6 h (jr_of rfl (by omega)) (jr_of rfl (by omega)) (jr_of rfl (by omega)) (jr_of rfl (by omega)) (jr_of rfl (by omega)) (by omega) J Sm D)
          ·
            rw [if_neg (by omega)] at D
            refine x_aloadn (x := 78) rfl rfl ?_
            refine z_getR (N := 16) (b := 83) 7 11 rfl f_7_40 rfl J rfl 9995 ⟨rfl, rfl⟩ rfl ?_
            refine x_iloadn (x := l3) rfl rfl ?_
            refine x_iload (x := l4) rfl rfl ?_
            refine z_iast (N := 600) (l := 0) (u := 600) (w := l4.toInt) rfl hD J Sm rfl rfl rfl (by omega) rfl (wr_83 (fun q1 q2 q3 q4 => by omega)) rfl (fun h w5 J Sm => ?_)
            rw [vww w5 (show l3.toInt = l3.toInt from by omega) (show l4.toInt = l4.toInt from by omega)] at D
            refine x_iload (x := l4) rfl rfl ?_
            refine x_istoren (lsx9 := [(3, .int l4), (0, .ref 78), (1, .int l1), (4, .int l4), (5, .int l5), (6, .int l6)]) rfl rfl rfl ?_
            refine x_aloadn (x := 78) rfl rfl ?_
            refine z_getR (N := 16) (b := 83) 7 11 rfl f_7_40 rfl J rfl 9995 ⟨rfl, rfl⟩ rfl ?_
            refine x_iload (x := l4) rfl rfl ?_
            refine z_iald (N := 600) rfl J rfl sg_83_0_600_1_0_1 rfl (by omega) (fun v6 qv6 ev6 => ?_)
            try rw [vrd qv6 (show l4.toInt = l4.toInt from by omega)] at D
            refine x_istore (lsx9 := [(4, .int v6), (3, .int l4), (0, .ref 78), (1, .int l1), (5, .int l5), (6, .int l6)]) rfl rfl rfl ?_
            refine x_goto (tgt := 94) rfl rfl ?_
            exact jX.sub (jsb_c rfl (jsb_c rfl (jsb_c rfl (jsb_c rfl (jsb_c rfl (jsb_c rfl jsb_n)))))) (ct_X7_merge_r78d_94 hD hQ ih l1 l4 v6 l5 l6 h (jr_of rfl (by omega)) (jr_of rfl (by omega)) (jr_of rfl (by omega)) (jr_of rfl (by omega)) (jr_of rfl (by omega)) (by omega) J Sm D)
set_option maxRecDepth 100000 in
set_option maxHeartbeats 4000000 in
theorem sf_X7_merge_r78d {Dy : jH → Prop} {h : jH} {Q : Option Value → jH → Prop} {dr : jW} {a1 : Int32} {a2 : Int32} (y1 : 0 ≤ a1.toInt ∧ a1.toInt ≤ 599) (y2 : 0 ≤ a2.toInt ∧ a2.toInt ≤ 599) (hD : jDk Dy) (J : jJ jSgX Dy h) (D : d_X7_merge_r78d a1.toInt a2.toInt (vw h) = dr) (hQ : ∀ hx9, jJ jSgX Dy hx9 → jSm fp_X7_merge_r78d h hx9 → dr = vw hx9 → Q none hx9) : jC m_X7_merge 1 0 0 [.ref 78, .int a1, .int a2] h Q := by
  refine jC.of rfl k_X7_merge rfl ?_
  have Sm := jSm_rf fp_X7_merge_r78d h
  show jX m_X7_merge 1 0 0 0 [(0, .ref 78), (1, .int a1), (2, .int a2)] [] _ 0 0 _
  unfold d_X7_merge_r78d at D
  refine x_iloadn (x := a1) rfl rfl ?_
  refine x_istoren (lsx9 := [(3, .int a1), (0, .ref 78), (1, .int a1), (2, .int a2)]) rfl rfl rfl ?_
  refine x_aloadn (x := 78) rfl rfl ?_
  refine z_getR (N := 16) (b := 83) 7 11 rfl f_7_40 rfl J rfl 9995 ⟨rfl, rfl⟩ rfl ?_
  refine x_iloadn (x := a1) rfl rfl ?_
  refine z_iald (N := 600) rfl J rfl sg_83_0_600_1_0_1 rfl (by omega) (fun v1 qv1 ev1 => ?_)
  try rw [vrd qv1 (show a1.toInt = a1.toInt from by omega)] at D
  refine x_istore (lsx9 := [(4, .int v1), (3, .int a1), (0, .ref 78), (1, .int a1), (2, .int a2)]) rfl rfl rfl ?_
  refine x_iloadn (x := a2) rfl rfl ?_
  refine x_istore (lsx9 := [(5, .int a2), (4, .int v1), (3, .int a1), (0, .ref 78), (1, .int a1), (2, .int a2)]) rfl rfl rfl ?_
  refine x_iconst (v := 0) rfl ki_0 ?_
  refine x_istore (lsx9 := [(6, .int 0), (5, .int a2), (4, .int v1), (3, .int a1), (0, .ref 78), (1, .int a1), (2, .int a2)]) rfl rfl rfl ?_
  exact jX.sub (jsb_c rfl (jsb_c rfl (jsb_c rfl (jsb_c rfl (jsb_c rfl (jsb_c rfl jsb_n)))))) (ct_X7_merge_r78d_16 hD hQ  601 a1 a1 v1 a2 0 h (by have := jk_0; omega) (jr_of rfl (by omega)) (jr_of rfl (by omega)) (jr_of rfl (by omega)) (jr_of rfl (by omega)) (jr_of jk_0 (by omega)) J Sm (by rw [jk_0]; exact D))
def fp_X8_at_r39_c1d : jFp := []
set_option maxRecDepth 100000 in
set_option maxHeartbeats 4000000 in
theorem ct_X8_at_r39_c1d_24 {Dy : jH → Prop} {h0 : jH} {Q : Option Value → jH → Prop} {dr : Int} (hD : jDk Dy) (hQ : ∀ (v : Int32) hx9, (-1) ≤ v.toInt ∧ v.toInt ≤ 599 → jJ jSgX Dy hx9 → jSm fp_X8_at_r39_c1d h0 hx9 → dr = v.toInt → vw hx9 = vw h0 → Q (some (.int v)) hx9) : ∀ (h : jH), jJ jSgX Dy h → jSm fp_X8_at_r39_c1d h0 h → d_X8_at_r39_c1d_24  (vw h) = dr → vw h = vw h0 → jX m_X8_at 1 0 0 24 [] [] h 0 0 Q := by
  intro  h    J Sm D EV
  unfold d_X8_at_r39_c1d_24 at D
  refine x_iconst (v := 0) rfl ki_0 ?_
  refine x_iret rfl rfl ?_
  exact hQ _ _ (jr_of jk_0 (by omega)) J Sm (D.symm.trans (show 0 = (0 : Int32).toInt from by have := jk_0; omega)) EV
set_option maxRecDepth 100000 in
set_option maxHeartbeats 4000000 in
theorem sf_X8_at_r39_c1d {Dy : jH → Prop} {h : jH} {Q : Option Value → jH → Prop} {dr : Int} {a1 : Int32} (y1 : 0 ≤ a1.toInt ∧ a1.toInt ≤ 199) (hD : jDk Dy) (J : jJ jSgX Dy h) (D : d_X8_at_r39_c1d a1.toInt (vw h) = dr) (hQ : ∀ (v : Int32) hx9, (-1) ≤ v.toInt ∧ v.toInt ≤ 599 → jJ jSgX Dy hx9 → jSm fp_X8_at_r39_c1d h hx9 → dr = v.toInt → vw hx9 = vw h → Q (some (.int v)) hx9) : jC m_X8_at 1 0 0 [.ref 39, .int a1, .int 1] h Q := by
  refine jC.of rfl k_X8_at rfl ?_
  have Sm := jSm_rf fp_X8_at_r39_c1d h
  show jX m_X8_at 1 0 0 0 [(0, .ref 39), (1, .int a1), (2, .int 1)] [] _ 0 0 _
  unfold d_X8_at_r39_c1d at D
  have EV : vw h = vw h := rfl
  refine x_iloadn (x := a1) rfl rfl ?_
  refine x_iflt (tgt := 24) rfl rfl (ti_lt rfl jk_0 (br_f (by omega) ?_))
  refine x_iloadn (x := a1) rfl rfl ?_
  refine x_aloadn (x := 39) rfl rfl ?_
  refine z_getI (N := 4) 8 3 rfl f_8_7 rfl J rfl sg_39_3_4_1_0_1 (fun v1 qv1 ev1 => ?_)
  try rw [vrf qv1] at D
  refine x_icge (tgt := 24) rfl rfl (ti_ge rfl rfl ⟨fun c2 => ?_, fun c2 => ?_⟩)
  ·
    rw [if_pos (by omega)] at D
    exact jX.sub jsb_n (ct_X8_at_r39_c1d_24 hD hQ  h J Sm D EV)
  ·
    rw [if_neg (by omega)] at D
    refine x_iloadn (x := 1) rfl rfl ?_
    refine x_iflt (tgt := 24) rfl rfl (ti_lt jk_1 jk_0 (br_f (by omega) ?_))
    refine x_iloadn (x := 1) rfl rfl ?_
    refine x_aloadn (x := 39) rfl rfl ?_
    refine z_getC (N := 4) (v := 3) 8 0 rfl f_8_19 rfl J rfl sg_39_0_1_1_0_1 jk_3 ?_
    refine x_iclt (tgt := 26) rfl rfl (ti_lt jk_1 jk_3 (br_t (by omega) ?_))
    refine x_aloadn (x := 39) rfl rfl ?_
    refine z_getR (N := 4) (b := 40) 8 2 rfl f_8_25 rfl J rfl 4994 ⟨rfl, rfl⟩ rfl ?_
    refine x_iloadn (x := a1) rfl rfl ?_
    refine x_aloadn (x := 39) rfl rfl ?_
    refine z_getC (N := 4) (v := 3) 8 0 rfl f_8_19 rfl J rfl sg_39_0_1_1_0_1 jk_3 ?_
    refine z_imul rfl rfl jk_3 (by omega) (fun v3 ev3 => ?_)
    refine x_iloadn (x := 1) rfl rfl ?_
    refine z_iadd rfl rfl jk_1 (by omega) (fun v4 ev4 => ?_)
    refine z_iald (N := 600) rfl J rfl sg_40_0_600_3_1_2 rfl (by omega) (fun v5 qv5 ev5 => ?_)
    try rw [vrd qv5 (show ((a1.toInt * 3) + 1) = v4.toInt from by omega)] at D
    refine x_iret rfl rfl ?_
    exact hQ _ _ (jr_of rfl (by omega)) J Sm (D.symm.trans (show v5.toInt = v5.toInt from by omega)) EV
def fp_X8_at_r39_c2d : jFp := []
set_option maxRecDepth 100000 in
set_option maxHeartbeats 4000000 in
theorem ct_X8_at_r39_c2d_24 {Dy : jH → Prop} {h0 : jH} {Q : Option Value → jH → Prop} {dr : Int} (hD : jDk Dy) (hQ : ∀ (v : Int32) hx9, (-1) ≤ v.toInt ∧ v.toInt ≤ 599 → jJ jSgX Dy hx9 → jSm fp_X8_at_r39_c2d h0 hx9 → dr = v.toInt → vw hx9 = vw h0 → Q (some (.int v)) hx9) : ∀ (h : jH), jJ jSgX Dy h → jSm fp_X8_at_r39_c2d h0 h → d_X8_at_r39_c2d_24  (vw h) = dr → vw h = vw h0 → jX m_X8_at 1 0 0 24 [] [] h 0 0 Q := by
  intro  h    J Sm D EV
  unfold d_X8_at_r39_c2d_24 at D
  refine x_iconst (v := 0) rfl ki_0 ?_
  refine x_iret rfl rfl ?_
  exact hQ _ _ (jr_of jk_0 (by omega)) J Sm (D.symm.trans (show 0 = (0 : Int32).toInt from by have := jk_0; omega)) EV
set_option maxRecDepth 100000 in
set_option maxHeartbeats 4000000 in
theorem sf_X8_at_r39_c2d {Dy : jH → Prop} {h : jH} {Q : Option Value → jH → Prop} {dr : Int} {a1 : Int32} (y1 : 0 ≤ a1.toInt ∧ a1.toInt ≤ 199) (hD : jDk Dy) (J : jJ jSgX Dy h) (D : d_X8_at_r39_c2d a1.toInt (vw h) = dr) (hQ : ∀ (v : Int32) hx9, (-1) ≤ v.toInt ∧ v.toInt ≤ 599 → jJ jSgX Dy hx9 → jSm fp_X8_at_r39_c2d h hx9 → dr = v.toInt → vw hx9 = vw h → Q (some (.int v)) hx9) : jC m_X8_at 1 0 0 [.ref 39, .int a1, .int 2] h Q := by
  refine jC.of rfl k_X8_at rfl ?_
  have Sm := jSm_rf fp_X8_at_r39_c2d h
  show jX m_X8_at 1 0 0 0 [(0, .ref 39), (1, .int a1), (2, .int 2)] [] _ 0 0 _
  unfold d_X8_at_r39_c2d at D
  have EV : vw h = vw h := rfl
  refine x_iloadn (x := a1) rfl rfl ?_
  refine x_iflt (tgt := 24) rfl rfl (ti_lt rfl jk_0 (br_f (by omega) ?_))
  refine x_iloadn (x := a1) rfl rfl ?_
  refine x_aloadn (x := 39) rfl rfl ?_
  refine z_getI (N := 4) 8 3 rfl f_8_7 rfl J rfl sg_39_3_4_1_0_1 (fun v1 qv1 ev1 => ?_)
  try rw [vrf qv1] at D
  refine x_icge (tgt := 24) rfl rfl (ti_ge rfl rfl ⟨fun c2 => ?_, fun c2 => ?_⟩)
  ·
    rw [if_pos (by omega)] at D
    exact jX.sub jsb_n (ct_X8_at_r39_c2d_24 hD hQ  h J Sm D EV)
  ·
    rw [if_neg (by omega)] at D
    refine x_iloadn (x := 2) rfl rfl ?_
    refine x_iflt (tgt := 24) rfl rfl (ti_lt jk_2 jk_0 (br_f (by omega) ?_))
    refine x_iloadn (x := 2) rfl rfl ?_
    refine x_aloadn (x := 39) rfl rfl ?_
    refine z_getC (N := 4) (v := 3) 8 0 rfl f_8_19 rfl J rfl sg_39_0_1_1_0_1 jk_3 ?_
    refine x_iclt (tgt := 26) rfl rfl (ti_lt jk_2 jk_3 (br_t (by omega) ?_))
    refine x_aloadn (x := 39) rfl rfl ?_
    refine z_getR (N := 4) (b := 40) 8 2 rfl f_8_25 rfl J rfl 4994 ⟨rfl, rfl⟩ rfl ?_
    refine x_iloadn (x := a1) rfl rfl ?_
    refine x_aloadn (x := 39) rfl rfl ?_
    refine z_getC (N := 4) (v := 3) 8 0 rfl f_8_19 rfl J rfl sg_39_0_1_1_0_1 jk_3 ?_
    refine z_imul rfl rfl jk_3 (by omega) (fun v3 ev3 => ?_)
    refine x_iloadn (x := 2) rfl rfl ?_
    refine z_iadd rfl rfl jk_2 (by omega) (fun v4 ev4 => ?_)
    refine z_iald (N := 600) rfl J rfl sg_40_0_600_3_2_3 rfl (by omega) (fun v5 qv5 ev5 => ?_)
    try rw [vrd qv5 (show ((a1.toInt * 3) + 2) = v4.toInt from by omega)] at D
    refine x_iret rfl rfl ?_
    exact hQ _ _ (jr_of rfl (by omega)) J Sm (D.symm.trans (show v5.toInt = v5.toInt from by omega)) EV
def fp_X8_isKnown_r33d : jFp := []
set_option maxRecDepth 100000 in
set_option maxHeartbeats 4000000 in
theorem ct_X8_isKnown_r33d_200032 {Dy : jH → Prop} {h0 : jH} {Q : Option Value → jH → Prop} {dr : Int} (hD : jDk Dy) (hQ : ∀ (v : Int32) hx9, 0 ≤ v.toInt ∧ v.toInt ≤ 1 → jJ jSgX Dy hx9 → jSm fp_X8_isKnown_r33d h0 hx9 → dr = v.toInt → vw hx9 = vw h0 → Q (some (.int v)) hx9) : ∀ (h : jH), jJ jSgX Dy h → jSm fp_X8_isKnown_r33d h0 h → d_X8_isKnown_r33d_200032  (vw h) = dr → vw h = vw h0 → jX m_X8_isKnown 1 0 0 32 [] [.int 0] h 0 0 Q := by
  intro  h    J Sm D EV
  unfold d_X8_isKnown_r33d_200032 at D
  refine x_zret rfl rfl (by decide) ?_
  exact hQ _ _ (jr_of jk_0 (by omega)) J Sm (D.symm.trans (show 0 = (0 : Int32).toInt from by have := jk_0; omega)) EV
set_option maxRecDepth 100000 in
set_option maxHeartbeats 4000000 in
theorem ct_X8_isKnown_r33d_300032 {Dy : jH → Prop} {h0 : jH} {Q : Option Value → jH → Prop} {dr : Int} (hD : jDk Dy) (hQ : ∀ (v : Int32) hx9, 0 ≤ v.toInt ∧ v.toInt ≤ 1 → jJ jSgX Dy hx9 → jSm fp_X8_isKnown_r33d h0 hx9 → dr = v.toInt → vw hx9 = vw h0 → Q (some (.int v)) hx9) : ∀ (h : jH), jJ jSgX Dy h → jSm fp_X8_isKnown_r33d h0 h → d_X8_isKnown_r33d_300032  (vw h) = dr → vw h = vw h0 → jX m_X8_isKnown 1 0 0 32 [] [.int 1] h 0 0 Q := by
  intro  h    J Sm D EV
  unfold d_X8_isKnown_r33d_300032 at D
  refine x_zret rfl rfl (by decide) ?_
  exact hQ _ _ (jr_of jk_1 (by omega)) J Sm (D.symm.trans (show 1 = (1 : Int32).toInt from by have := jk_1; omega)) EV
set_option maxRecDepth 100000 in
set_option maxHeartbeats 4000000 in
theorem ct_X8_isKnown_r33d_31 {Dy : jH → Prop} {h0 : jH} {Q : Option Value → jH → Prop} {dr : Int} (hD : jDk Dy) (hQ : ∀ (v : Int32) hx9, 0 ≤ v.toInt ∧ v.toInt ≤ 1 → jJ jSgX Dy hx9 → jSm fp_X8_isKnown_r33d h0 hx9 → dr = v.toInt → vw hx9 = vw h0 → Q (some (.int v)) hx9) : ∀ (h : jH), jJ jSgX Dy h → jSm fp_X8_isKnown_r33d h0 h → d_X8_isKnown_r33d_31  (vw h) = dr → vw h = vw h0 → jX m_X8_isKnown 1 0 0 31 [] [] h 0 0 Q := by
  intro  h    J Sm D EV
  unfold d_X8_isKnown_r33d_31 at D
  refine x_iconst (v := 0) rfl ki_0 ?_
  exact jX.sub jsb_n (ct_X8_isKnown_r33d_200032 hD hQ  h J Sm D EV)
set_option maxRecDepth 100000 in
set_option maxHeartbeats 4000000 in
theorem sf_X8_isKnown_r33d {Dy : jH → Prop} {h : jH} {Q : Option Value → jH → Prop} {dr : Int} {a1 : Int32} {a2 : Int32} (y2 : 0 ≤ a2.toInt ∧ a2.toInt ≤ 146399) (hD : jDk Dy) (J : jJ jSgX Dy h) (D : d_X8_isKnown_r33d a1.toInt a2.toInt (vw h) = dr) (hQ : ∀ (v : Int32) hx9, 0 ≤ v.toInt ∧ v.toInt ≤ 1 → jJ jSgX Dy hx9 → jSm fp_X8_isKnown_r33d h hx9 → dr = v.toInt → vw hx9 = vw h → Q (some (.int v)) hx9) : jC m_X8_isKnown 1 0 0 [.ref 33, .int a1, .int a2] h Q := by
  refine jC.of rfl k_X8_isKnown rfl ?_
  have Sm := jSm_rf fp_X8_isKnown_r33d h
  have ea1 := jfull a1
  show jX m_X8_isKnown 1 0 0 0 [(0, .ref 33), (1, .int a1), (2, .int a2)] [] _ 0 0 _
  unfold d_X8_isKnown_r33d at D
  have EV : vw h = vw h := rfl
  refine x_iloadn (x := a1) rfl rfl ?_
  refine x_iflt (tgt := 31) rfl rfl (ti_lt rfl jk_0 ⟨fun c1 => ?_, fun c1 => ?_⟩)
  ·
    rw [if_pos (by omega)] at D
    exact jX.sub jsb_n (ct_X8_isKnown_r33d_31 hD hQ  h J Sm D EV)
  ·
    rw [if_neg (by omega)] at D
    refine x_iloadn (x := a1) rfl rfl ?_
    refine x_aloadn (x := 33) rfl rfl ?_
    refine z_getI (N := 4) 8 3 rfl f_8_7 rfl J rfl sg_33_3_4_1_0_1 (fun v2 qv2 ev2 => ?_)
    try rw [vrf qv2] at D
    refine x_icge (tgt := 31) rfl rfl (ti_ge rfl rfl ⟨fun c3 => ?_, fun c3 => ?_⟩)
    ·
      rw [if_pos (by omega)] at D
      exact jX.sub jsb_n (ct_X8_isKnown_r33d_31 hD hQ  h J Sm D EV)
    ·
      rw [if_neg (by omega)] at D
      refine x_aloadn (x := 33) rfl rfl ?_
      refine z_getR (N := 4) (b := 34) 8 2 rfl f_8_25 rfl J rfl 4226 ⟨rfl, rfl⟩ rfl ?_
      refine x_iloadn (x := a1) rfl rfl ?_
      refine x_aloadn (x := 33) rfl rfl ?_
      refine z_getC (N := 4) (v := 6) 8 0 rfl f_8_19 rfl J rfl sg_33_0_1_1_0_1 jk_6 ?_
      refine z_imul rfl rfl jk_6 (by omega) (fun v4 ev4 => ?_)
      refine z_iald (N := 1200) rfl J rfl sg_34_0_1200_6_0_1 rfl (by omega) (fun v5 qv5 ev5 => ?_)
      try rw [vrd qv5 (show (a1.toInt * 6) = v4.toInt from by omega)] at D
      refine x_iloadn (x := a2) rfl rfl ?_
      refine x_icgt (tgt := 31) rfl rfl (ti_gt rfl rfl ⟨fun c6 => ?_, fun c6 => ?_⟩)
      ·
        rw [if_pos (by omega)] at D
        exact jX.sub jsb_n (ct_X8_isKnown_r33d_31 hD hQ  h J Sm D EV)
      ·
        rw [if_neg (by omega)] at D
        refine x_iconst (v := 1) rfl ki_1 ?_
        refine x_goto (tgt := 32) rfl rfl ?_
        exact jX.sub jsb_n (ct_X8_isKnown_r33d_300032 hD hQ  h J Sm D EV)
def fp_X8_isKnown_r39d : jFp := []
set_option maxRecDepth 100000 in
set_option maxHeartbeats 4000000 in
theorem ct_X8_isKnown_r39d_300032 {Dy : jH → Prop} {h0 : jH} {Q : Option Value → jH → Prop} {dr : Int} (hD : jDk Dy) (hQ : ∀ (v : Int32) hx9, 0 ≤ v.toInt ∧ v.toInt ≤ 1 → jJ jSgX Dy hx9 → jSm fp_X8_isKnown_r39d h0 hx9 → dr = v.toInt → vw hx9 = vw h0 → Q (some (.int v)) hx9) : ∀ (h : jH), jJ jSgX Dy h → jSm fp_X8_isKnown_r39d h0 h → d_X8_isKnown_r39d_300032  (vw h) = dr → vw h = vw h0 → jX m_X8_isKnown 1 0 0 32 [] [.int 1] h 0 0 Q := by
  intro  h    J Sm D EV
  unfold d_X8_isKnown_r39d_300032 at D
  refine x_zret rfl rfl (by decide) ?_
  exact hQ _ _ (jr_of jk_1 (by omega)) J Sm (D.symm.trans (show 1 = (1 : Int32).toInt from by have := jk_1; omega)) EV
set_option maxRecDepth 100000 in
set_option maxHeartbeats 4000000 in
theorem ct_X8_isKnown_r39d_200032 {Dy : jH → Prop} {h0 : jH} {Q : Option Value → jH → Prop} {dr : Int} (hD : jDk Dy) (hQ : ∀ (v : Int32) hx9, 0 ≤ v.toInt ∧ v.toInt ≤ 1 → jJ jSgX Dy hx9 → jSm fp_X8_isKnown_r39d h0 hx9 → dr = v.toInt → vw hx9 = vw h0 → Q (some (.int v)) hx9) : ∀ (h : jH), jJ jSgX Dy h → jSm fp_X8_isKnown_r39d h0 h → d_X8_isKnown_r39d_200032  (vw h) = dr → vw h = vw h0 → jX m_X8_isKnown 1 0 0 32 [] [.int 0] h 0 0 Q := by
  intro  h    J Sm D EV
  unfold d_X8_isKnown_r39d_200032 at D
  refine x_zret rfl rfl (by decide) ?_
  exact hQ _ _ (jr_of jk_0 (by omega)) J Sm (D.symm.trans (show 0 = (0 : Int32).toInt from by have := jk_0; omega)) EV
set_option maxRecDepth 100000 in
set_option maxHeartbeats 4000000 in
theorem ct_X8_isKnown_r39d_31 {Dy : jH → Prop} {h0 : jH} {Q : Option Value → jH → Prop} {dr : Int} (hD : jDk Dy) (hQ : ∀ (v : Int32) hx9, 0 ≤ v.toInt ∧ v.toInt ≤ 1 → jJ jSgX Dy hx9 → jSm fp_X8_isKnown_r39d h0 hx9 → dr = v.toInt → vw hx9 = vw h0 → Q (some (.int v)) hx9) : ∀ (h : jH), jJ jSgX Dy h → jSm fp_X8_isKnown_r39d h0 h → d_X8_isKnown_r39d_31  (vw h) = dr → vw h = vw h0 → jX m_X8_isKnown 1 0 0 31 [] [] h 0 0 Q := by
  intro  h    J Sm D EV
  unfold d_X8_isKnown_r39d_31 at D
  refine x_iconst (v := 0) rfl ki_0 ?_
  exact jX.sub jsb_n (ct_X8_isKnown_r39d_200032 hD hQ  h J Sm D EV)
set_option maxRecDepth 100000 in
set_option maxHeartbeats 4000000 in
theorem sf_X8_isKnown_r39d {Dy : jH → Prop} {h : jH} {Q : Option Value → jH → Prop} {dr : Int} {a1 : Int32} {a2 : Int32} (y1 : 0 ≤ a1.toInt ∧ a1.toInt ≤ 199) (y2 : 0 ≤ a2.toInt ∧ a2.toInt ≤ 146399) (hD : jDk Dy) (J : jJ jSgX Dy h) (D : d_X8_isKnown_r39d a1.toInt a2.toInt (vw h) = dr) (hQ : ∀ (v : Int32) hx9, 0 ≤ v.toInt ∧ v.toInt ≤ 1 → jJ jSgX Dy hx9 → jSm fp_X8_isKnown_r39d h hx9 → dr = v.toInt → vw hx9 = vw h → Q (some (.int v)) hx9) : jC m_X8_isKnown 1 0 0 [.ref 39, .int a1, .int a2] h Q := by
  refine jC.of rfl k_X8_isKnown rfl ?_
  have Sm := jSm_rf fp_X8_isKnown_r39d h
  show jX m_X8_isKnown 1 0 0 0 [(0, .ref 39), (1, .int a1), (2, .int a2)] [] _ 0 0 _
  unfold d_X8_isKnown_r39d at D
  have EV : vw h = vw h := rfl
  refine x_iloadn (x := a1) rfl rfl ?_
  refine x_iflt (tgt := 31) rfl rfl (ti_lt rfl jk_0 (br_f (by omega) ?_))
  refine x_iloadn (x := a1) rfl rfl ?_
  refine x_aloadn (x := 39) rfl rfl ?_
  refine z_getI (N := 4) 8 3 rfl f_8_7 rfl J rfl sg_39_3_4_1_0_1 (fun v1 qv1 ev1 => ?_)
  try rw [vrf qv1] at D
  refine x_icge (tgt := 31) rfl rfl (ti_ge rfl rfl ⟨fun c2 => ?_, fun c2 => ?_⟩)
  ·
    rw [if_pos (by omega)] at D
    exact jX.sub jsb_n (ct_X8_isKnown_r39d_31 hD hQ  h J Sm D EV)
  ·
    rw [if_neg (by omega)] at D
    refine x_aloadn (x := 39) rfl rfl ?_
    refine z_getR (N := 4) (b := 40) 8 2 rfl f_8_25 rfl J rfl 4994 ⟨rfl, rfl⟩ rfl ?_
    refine x_iloadn (x := a1) rfl rfl ?_
    refine x_aloadn (x := 39) rfl rfl ?_
    refine z_getC (N := 4) (v := 3) 8 0 rfl f_8_19 rfl J rfl sg_39_0_1_1_0_1 jk_3 ?_
    refine z_imul rfl rfl jk_3 (by omega) (fun v3 ev3 => ?_)
    refine z_iald (N := 600) rfl J rfl sg_40_0_600_3_0_1 rfl (by omega) (fun v4 qv4 ev4 => ?_)
    try rw [vrd qv4 (show (a1.toInt * 3) = v3.toInt from by omega)] at D
    refine x_iloadn (x := a2) rfl rfl ?_
    refine x_icgt (tgt := 31) rfl rfl (ti_gt rfl rfl ⟨fun c5 => ?_, fun c5 => ?_⟩)
    ·
      rw [if_pos (by omega)] at D
      exact jX.sub jsb_n (ct_X8_isKnown_r39d_31 hD hQ  h J Sm D EV)
    ·
      rw [if_neg (by omega)] at D
      refine x_iconst (v := 1) rfl ki_1 ?_
      refine x_goto (tgt := 32) rfl rfl ?_
      exact jX.sub jsb_n (ct_X8_isKnown_r39d_300032 hD hQ  h J Sm D EV)
def fp_X7_asKnown_r78d : jFp := [(78, 13, 14), (82, 0, 600), (83, 0, 600), (84, 0, 200), (86, 0, 3)]
set_option maxRecDepth 100000 in
set_option maxHeartbeats 4000000 in
theorem ct_X7_asKnown_r78d_169 {Dy : jH → Prop} {h0 : jH} {Q : Option Value → jH → Prop} {dr : jW} {K103 : Int → Int → jW → jW} {R103 : Int} (hD : jDk Dy) (hQ : ∀ hx9, jJ jSgX Dy hx9 → jSm fp_X7_asKnown_r78d h0 hx9 → dr = vw hx9 → Q none hx9) (k103 : ∀ (l1 : Int32) (l2 : Int32) (g0 : Int32) (g1 : Int32) (h : jH), 200 - l2.toInt < R103 → 0 ≤ l1.toInt ∧ l1.toInt ≤ 146399 → 0 ≤ l2.toInt ∧ l2.toInt ≤ 200 → 0 ≤ g0.toInt ∧ g0.toInt ≤ 200 → 0 ≤ g1.toInt ∧ g1.toInt ≤ 200 → jiv h 33 3 = g0 → jiv h 78 13 = g1 → jJ jSgX Dy h → jSm fp_X7_asKnown_r78d h0 h → K103 l1.toInt l2.toInt (vw h) = dr → jX m_X7_asKnown 6 0 0 103 [(0, .ref 78), (1, .int l1), (2, .int l2)] [] h 0 0 Q) : ∀ (l1 : Int32) (l2 : Int32) (g0 : Int32) (g1 : Int32) (h : jH), 0 ≤ l1.toInt ∧ l1.toInt ≤ 146399 → 0 ≤ l2.toInt ∧ l2.toInt ≤ 199 → 0 ≤ g0.toInt ∧ g0.toInt ≤ 200 → 0 ≤ g1.toInt ∧ g1.toInt ≤ 200 → jiv h 33 3 = g0 → jiv h 78 13 = g1 → 200 - l2.toInt ≤ R103 → jJ jSgX Dy h → jSm fp_X7_asKnown_r78d h0 h → d_X7_asKnown_r78d_169 K103  l1.toInt l2.toInt (vw h) = dr → jX m_X7_asKnown 6 0 0 169 [(0, .ref 78), (1, .int l1), (2, .int l2)] [] h 0 0 Q := by
  intro l1 l2 g0 g1 h y0 y1 y2 y3 z0 z1 m103 J Sm D
  unfold d_X7_asKnown_r78d_169 at D
  try rw [vrf z0] at D
  try rw [vrf z1] at D
  refine z_iinc (x := l2) (lsx9 := fun v1 => [(2, .int v1), (0, .ref 78), (1, .int l1)]) rfl rfl rfl jko_1 (by omega) rfl (fun _ => rfl) (fun v1 ev1 => ?_)
  refine x_goto (tgt := 103) rfl rfl ?_
  try rw [show (l2.toInt + 1) = v1.toInt from by omega] at D
  exact jX.sub (jsb_c rfl (jsb_c rfl (jsb_c rfl jsb_n))) (k103 l1 v1 g0 g1 h (by omega) (jr_of rfl (by omega)) (jr_of rfl (by omega)) (jr_of rfl (by omega)) (jr_of rfl (by omega)) z0 z1 J Sm D)
set_option maxRecDepth 100000 in
set_option maxHeartbeats 4000000 in
theorem ct_X7_asKnown_r78d_103 {Dy : jH → Prop} {h0 : jH} {Q : Option Value → jH → Prop} {dr : jW} (hD : jDk Dy) (hQ : ∀ hx9, jJ jSgX Dy hx9 → jSm fp_X7_asKnown_r78d h0 hx9 → dr = vw hx9 → Q none hx9) : ∀ r : Nat, ∀ (l1 : Int32) (l2 : Int32) (g0 : Int32) (g1 : Int32) (h : jH), 200 - l2.toInt < (r : Int) → 0 ≤ l1.toInt ∧ l1.toInt ≤ 146399 → 0 ≤ l2.toInt ∧ l2.toInt ≤ 200 → 0 ≤ g0.toInt ∧ g0.toInt ≤ 200 → 0 ≤ g1.toInt ∧ g1.toInt ≤ 200 → jiv h 33 3 = g0 → jiv h 78 13 = g1 → jJ jSgX Dy h → jSm fp_X7_asKnown_r78d h0 h → d_X7_asKnown_r78d_103 r l1.toInt l2.toInt (vw h) = dr → jX m_X7_asKnown 6 0 0 103 [(0, .ref 78), (1, .int l1), (2, .int l2)] [] h 0 0 Q := by
  intro r
  induction r with
  | zero =>
    intro l1 l2 g0 g1 h hm y0 y1 y2 y3 z0 z1  J Sm D
    exfalso
    omega
  | succ r ih =>
    intro l1 l2 g0 g1 h hm y0 y1 y2 y3 z0 z1  J Sm D
    rw [d_X7_asKnown_r78d_103.eq_2] at D
    try rw [vrf z0] at D
    try rw [vrf z1] at D
    refine x_iloadn (x := l2) rfl rfl ?_
    refine x_aloadn (x := 78) rfl rfl ?_
    refine z_getR (N := 16) (b := 32) 7 0 rfl f_7_55 rfl J rfl 9984 ⟨rfl, rfl⟩ rfl ?_
    refine z_getR (N := 20) (b := 39) 1 3 rfl f_7_150 rfl J rfl 4099 ⟨rfl, rfl⟩ rfl ?_
    refine z_getI (N := 4) 8 3 rfl f_7_85 rfl J rfl sg_39_3_4_1_0_1 (fun v1 qv1 ev1 => ?_)
    try rw [vrf qv1] at D
    refine x_icge (tgt := 175) rfl rfl (ti_ge rfl rfl ⟨fun c2 => ?_, fun c2 => ?_⟩)
    ·
      rw [if_pos (by omega)] at D
      refine x_vret rfl rfl ?_
      exact hQ _ J Sm D.symm
    ·
      rw [if_neg (by omega)] at D
      refine x_aloadn (x := 78) rfl rfl ?_
      refine z_getR (N := 16) (b := 32) 7 0 rfl f_7_55 rfl J rfl 9984 ⟨rfl, rfl⟩ rfl ?_
      refine z_getR (N := 20) (b := 39) 1 3 rfl f_7_150 rfl J rfl 4099 ⟨rfl, rfl⟩ rfl ?_
      refine x_iloadn (x := l2) rfl rfl ?_
      refine x_iloadn (x := l1) rfl rfl ?_
      refine x_inv (N := m_X8_isKnown) (As := [.int l2, .int l1]) (b := 39) (st := []) (dx9 := 1) (mc := 0) (ms := 0) (host := "") 8 rfl t_X8_isKnown ⟨Or.inl q_7_147, i_X8_isKnown.1, i_X8_isKnown.2⟩ ⟨by decide, rfl⟩ (congrArg Prod.fst (J.1.1 39 (8, 4) rfl)) rfl (by decide) rfl rfl ⟨by decide, by decide⟩ (sf_X8_isKnown_r39d (jr_of rfl (by omega)) (jr_of rfl (by omega)) hD J rfl  (fun v6 h ev6 J S3 X4 X5 => ?_))
      have Sm := jSm_tr rfl Sm S3
      try rw [X4] at D
      try rw [← X5] at D
      show jX m_X7_asKnown 6 0 0 129 [(0, .ref 78), (1, .int l1), (2, .int l2)] [.int v6] _ 0 0 _
      refine x_ifeq (tgt := 169) rfl rfl (ti_eq rfl jk_0 ⟨fun c7 => ?_, fun c7 => ?_⟩)
      ·
        rw [if_pos (by omega)] at D
        exact jX.sub (jsb_c rfl (jsb_c rfl (jsb_c rfl jsb_n))) (ct_X7_asKnown_r78d_169 hD hQ ih l1 l2 g0 g1 h (jr_of rfl (by omega)) (jr_of rfl (by omega)) (jr_of rfl (by omega)) (jr_of rfl (by omega)) (jmc S3 rfl z0) (jmc S3 rfl z1) (by omega) J Sm D)
      ·
        rw [if_neg (by omega)] at D
        refine x_aloadn (x := 78) rfl rfl ?_
        refine x_iloadn (x := l2) rfl rfl ?_
        refine x_aloadn (x := 78) rfl rfl ?_
        refine x_aloadn (x := 78) rfl rfl ?_
        refine z_getR (N := 16) (b := 32) 7 0 rfl f_7_55 rfl J rfl 9984 ⟨rfl, rfl⟩ rfl ?_
        refine z_getR (N := 20) (b := 39) 1 3 rfl f_7_150 rfl J rfl 4099 ⟨rfl, rfl⟩ rfl ?_
        refine x_iloadn (x := l2) rfl rfl ?_
        refine x_iconst (v := 1) rfl ki_1 ?_
        refine x_inv (N := m_X8_at) (As := [.int l2, .int 1]) (b := 39) (st := [.ref 78, .int l2, .ref 78]) (dx9 := 1) (mc := 0) (ms := 0) (host := "") 8 rfl t_X8_at ⟨Or.inl q_7_69, i_X8_at.1, i_X8_at.2⟩ ⟨by decide, rfl⟩ (congrArg Prod.fst (J.1.1 39 (8, 4) rfl)) rfl (by decide) rfl rfl ⟨by decide, by decide⟩ (sf_X8_at_r39_c1d (jr_of rfl (by omega)) hD J rfl  (fun v11 h ev11 J S8 X9 X10 => ?_))
        have Sm := jSm_tr rfl Sm S8
        try rw [X9] at D
        try rw [← X10] at D
        show jX m_X7_asKnown 6 0 0 147 [(0, .ref 78), (1, .int l1), (2, .int l2)] [.int v11, .ref 78, .int l2, .ref 78] _ 0 0 _
        refine x_inv (N := m_X7_soulAt) (As := [.int v11]) (b := 78) (st := [.int l2, .ref 78]) (dx9 := 5) (mc := 0) (ms := 0) (host := "") 7 rfl t_X7_soulAt ⟨Or.inl q_7_153, i_X7_soulAt.1, i_X7_soulAt.2⟩ ⟨by decide, rfl⟩ (congrArg Prod.fst (J.1.1 78 (7, 16) rfl)) rfl (by decide) rfl rfl ⟨by decide, by decide⟩ (jC.of rfl k_X7_soulAt rfl ?_)
        show jX m_X7_soulAt 5 0 0 0 [(0, .ref 78), (1, .int v11)] [] _ 0 0 _
        refine x_iloadn (x := v11) rfl rfl ?_
        refine x_iflt (tgt := 36) rfl rfl (ti_lt rfl jk_0 ⟨fun c12 => ?_, fun c12 => ?_⟩)
        ·
          rw [if_pos (by omega)] at D
          refine x_iconst (v := (-1)) rfl ki_m1 ?_
          refine x_iret rfl rfl ?_
          show jX m_X7_asKnown 6 0 0 150 [(0, .ref 78), (1, .int l1), (2, .int l2)] [.int (-1), .int l2, .ref 78] _ 0 0 _
          refine x_aloadn (x := 78) rfl rfl ?_
          refine x_aloadn (x := 78) rfl rfl ?_
          refine z_getR (N := 16) (b := 32) 7 0 rfl f_7_55 rfl J rfl 9984 ⟨rfl, rfl⟩ rfl ?_
          refine z_getR (N := 20) (b := 39) 1 3 rfl f_7_150 rfl J rfl 4099 ⟨rfl, rfl⟩ rfl ?_
          refine x_iloadn (x := l2) rfl rfl ?_
          refine x_iconst (v := 2) rfl ki_2 ?_
          refine x_inv (N := m_X8_at) (As := [.int l2, .int 2]) (b := 39) (st := [.ref 78, .int (-1), .int l2, .ref 78]) (dx9 := 1) (mc := 0) (ms := 0) (host := "") 8 rfl t_X8_at ⟨Or.inl q_7_69, i_X8_at.1, i_X8_at.2⟩ ⟨by decide, rfl⟩ (congrArg Prod.fst (J.1.1 39 (8, 4) rfl)) rfl (by decide) rfl rfl ⟨by decide, by decide⟩ (sf_X8_at_r39_c2d (jr_of rfl (by omega)) hD J rfl  (fun v16 h ev16 J S13 X14 X15 => ?_))
          have Sm := jSm_tr rfl Sm S13
          try rw [X14] at D
          try rw [← X15] at D
          show jX m_X7_asKnown 6 0 0 163 [(0, .ref 78), (1, .int l1), (2, .int l2)] [.int v16, .ref 78, .int (-1), .int l2, .ref 78] _ 0 0 _
          refine x_inv (N := m_X7_soulAt) (As := [.int v16]) (b := 78) (st := [.int (-1), .int l2, .ref 78]) (dx9 := 5) (mc := 0) (ms := 0) (host := "") 7 rfl t_X7_soulAt ⟨Or.inl q_7_153, i_X7_soulAt.1, i_X7_soulAt.2⟩ ⟨by decide, rfl⟩ (congrArg Prod.fst (J.1.1 78 (7, 16) rfl)) rfl (by decide) rfl rfl ⟨by decide, by decide⟩ (jC.of rfl k_X7_soulAt rfl ?_)
          show jX m_X7_soulAt 5 0 0 0 [(0, .ref 78), (1, .int v16)] [] _ 0 0 _
          refine x_iloadn (x := v16) rfl rfl ?_
          refine x_iflt (tgt := 36) rfl rfl (ti_lt rfl jk_0 ⟨fun c17 => ?_, fun c17 => ?_⟩)
          ·
            rw [if_pos (by omega)] at D
            refine x_iconst (v := (-1)) rfl ki_m1 ?_
            refine x_iret rfl rfl ?_
            show jX m_X7_asKnown 6 0 0 166 [(0, .ref 78), (1, .int l1), (2, .int l2)] [.int (-1), .int (-1), .int l2, .ref 78] _ 0 0 _
            refine x_inv (N := m_X7_bind) (As := [.int l2, .int (-1), .int (-1)]) (b := 78) (st := []) (dx9 := 5) (mc := 0) (ms := 0) (host := "") 7 rfl t_X7_bind ⟨Or.inl q_7_156, i_X7_bind.1, i_X7_bind.2⟩ ⟨by decide, rfl⟩ (congrArg Prod.fst (J.1.1 78 (7, 16) rfl)) rfl (by decide) rfl rfl ⟨by decide, by decide⟩ (jC.of rfl k_X7_bind rfl ?_)
            show jX m_X7_bind 5 0 0 0 [(0, .ref 78), (1, .int l2), (2, .int (-1)), (3, .int (-1))] [] _ 0 0 _
            refine x_iloadn (x := (-1)) rfl rfl ?_
            refine x_iconst (v := (-1)) rfl ki_m1 ?_
            refine x_iceq (tgt := 15) rfl rfl (ti_eq jk_m1 jk_m1 (br_t (by omega) ?_))
            refine x_vret rfl rfl ?_
            show jX m_X7_asKnown 6 0 0 169 [(0, .ref 78), (1, .int l1), (2, .int l2)] [] _ 0 0 _
            exact jX.sub (jsb_c rfl (jsb_c rfl (jsb_c rfl jsb_n))) (ct_X7_asKnown_r78d_169 hD hQ ih l1 l2 g0 g1 h (jr_of rfl (by omega)) (jr_of rfl (by omega)) (jr_of rfl (by omega)) (jr_of rfl (by omega)) (jmc S13 rfl (jmc S8 rfl (jmc S3 rfl z0))) (jmc S13 rfl (jmc S8 rfl (jmc S3 rfl z1))) (by omega) J Sm D)
          ·
            rw [if_neg (by omega)] at D
            refine x_iloadn (x := v16) rfl rfl ?_
            refine x_sipush (v := 600) rfl ks_600 ?_
            refine x_icge (tgt := 36) rfl rfl (ti_ge rfl jk_600 (br_f (by omega) ?_))
            refine x_iloadn (x := v16) rfl rfl ?_
            refine x_iconst (v := 3) rfl ki_3 ?_
            refine z_idiv rfl rfl jk_3 (by omega) (by omega) (fun v18 ev18 => ?_)
            refine x_aloadn (x := 78) rfl rfl ?_
            refine z_getR (N := 16) (b := 32) 7 0 rfl f_7_55 rfl J rfl 9984 ⟨rfl, rfl⟩ rfl ?_
            refine z_getR (N := 20) (b := 33) 1 0 rfl f_7_63 rfl J rfl 4096 ⟨rfl, rfl⟩ rfl ?_
            refine z_getM (N := 4) (v := g0) 8 3 rfl f_7_85 rfl J rfl (jmc S13 rfl (jmc S8 rfl (jmc S3 rfl z0))) ?_
            refine x_icge (tgt := 36) rfl rfl (ti_ge rfl rfl ⟨fun c19 => ?_, fun c19 => ?_⟩)
            ·
              rw [if_pos (by omega)] at D
              refine x_iconst (v := (-1)) rfl ki_m1 ?_
              refine x_iret rfl rfl ?_
              show jX m_X7_asKnown 6 0 0 166 [(0, .ref 78), (1, .int l1), (2, .int l2)] [.int (-1), .int (-1), .int l2, .ref 78] _ 0 0 _
              refine x_inv (N := m_X7_bind) (As := [.int l2, .int (-1), .int (-1)]) (b := 78) (st := []) (dx9 := 5) (mc := 0) (ms := 0) (host := "") 7 rfl t_X7_bind ⟨Or.inl q_7_156, i_X7_bind.1, i_X7_bind.2⟩ ⟨by decide, rfl⟩ (congrArg Prod.fst (J.1.1 78 (7, 16) rfl)) rfl (by decide) rfl rfl ⟨by decide, by decide⟩ (jC.of rfl k_X7_bind rfl ?_)
              show jX m_X7_bind 5 0 0 0 [(0, .ref 78), (1, .int l2), (2, .int (-1)), (3, .int (-1))] [] _ 0 0 _
              refine x_iloadn (x := (-1)) rfl rfl ?_
              refine x_iconst (v := (-1)) rfl ki_m1 ?_
              refine x_iceq (tgt := 15) rfl rfl (ti_eq jk_m1 jk_m1 (br_t (by omega) ?_))
              refine x_vret rfl rfl ?_
              show jX m_X7_asKnown 6 0 0 169 [(0, .ref 78), (1, .int l1), (2, .int l2)] [] _ 0 0 _
              exact jX.sub (jsb_c rfl (jsb_c rfl (jsb_c rfl jsb_n))) (ct_X7_asKnown_r78d_169 hD hQ ih l1 l2 g0 g1 h (jr_of rfl (by omega)) (jr_of rfl (by omega)) (jr_of rfl (by omega)) (jr_of rfl (by omega)) (jmc S13 rfl (jmc S8 rfl (jmc S3 rfl z0))) (jmc S13 rfl (jmc S8 rfl (jmc S3 rfl z1))) (by omega) J Sm D)
            ·
              rw [if_neg (by omega)] at D
              refine x_aloadn (x := 78) rfl rfl ?_
              refine z_getR (N := 16) (b := 82) 7 10 rfl f_7_37 rfl J rfl 9994 ⟨rfl, rfl⟩ rfl ?_
              refine x_iloadn (x := v16) rfl rfl ?_
              refine z_iald (N := 600) rfl J rfl sg_82_0_600_1_0_1 rfl (by omega) (fun v20 qv20 ev20 => ?_)
              try rw [vrd qv20 (show v16.toInt = v16.toInt from by omega)] at D
              refine x_goto (tgt := 37) rfl rfl ?_
              refine x_iret rfl rfl ?_
              show jX m_X7_asKnown 6 0 0 166 [(0, .ref 78), (1, .int l1), (2, .int l2)] [.int v20, .int (-1), .int l2, .ref 78] _ 0 0 _
              refine x_inv (N := m_X7_bind) (As := [.int l2, .int (-1), .int v20]) (b := 78) (st := []) (dx9 := 5) (mc := 0) (ms := 0) (host := "") 7 rfl t_X7_bind ⟨Or.inl q_7_156, i_X7_bind.1, i_X7_bind.2⟩ ⟨by decide, rfl⟩ (congrArg Prod.fst (J.1.1 78 (7, 16) rfl)) rfl (by decide) rfl rfl ⟨by decide, by decide⟩ (jC.of rfl k_X7_bind rfl ?_)
              show jX m_X7_bind 5 0 0 0 [(0, .ref 78), (1, .int l2), (2, .int (-1)), (3, .int v20)] [] _ 0 0 _
              refine x_iloadn (x := (-1)) rfl rfl ?_
              refine x_iconst (v := (-1)) rfl ki_m1 ?_
              refine x_iceq (tgt := 15) rfl rfl (ti_eq jk_m1 jk_m1 (br_t (by omega) ?_))
              refine x_vret rfl rfl ?_
              show jX m_X7_asKnown 6 0 0 169 [(0, .ref 78), (1, .int l1), (2, .int l2)] [] _ 0 0 _
              exact jX.sub (jsb_c rfl (jsb_c rfl (jsb_c rfl jsb_n))) (ct_X7_asKnown_r78d_169 hD hQ ih l1 l2 g0 g1 h (jr_of rfl (by omega)) (jr_of rfl (by omega)) (jr_of rfl (by omega)) (jr_of rfl (by omega)) (jmc S13 rfl (jmc S8 rfl (jmc S3 rfl z0))) (jmc S13 rfl (jmc S8 rfl (jmc S3 rfl z1))) (by omega) J Sm D)
        ·
          rw [if_neg (by omega)] at D
          refine x_iloadn (x := v11) rfl rfl ?_
          refine x_sipush (v := 600) rfl ks_600 ?_
          refine x_icge (tgt := 36) rfl rfl (ti_ge rfl jk_600 (br_f (by omega) ?_))
          refine x_iloadn (x := v11) rfl rfl ?_
          refine x_iconst (v := 3) rfl ki_3 ?_
          refine z_idiv rfl rfl jk_3 (by omega) (by omega) (fun v21 ev21 => ?_)
          refine x_aloadn (x := 78) rfl rfl ?_
          refine z_getR (N := 16) (b := 32) 7 0 rfl f_7_55 rfl J rfl 9984 ⟨rfl, rfl⟩ rfl ?_
          refine z_getR (N := 20) (b := 33) 1 0 rfl f_7_63 rfl J rfl 4096 ⟨rfl, rfl⟩ rfl ?_
          refine z_getM (N := 4) (v := g0) 8 3 rfl f_7_85 rfl J rfl (jmc S8 rfl (jmc S3 rfl z0)) ?_
          refine x_icge (tgt := 36) rfl rfl (ti_ge rfl rfl ⟨fun c22 => ?_, fun c22 => ?_⟩)
          ·
            rw [if_pos (by omega)] at D
            refine x_iconst (v := (-1)) rfl ki_m1 ?_
            refine x_iret rfl rfl ?_
            show jX m_X7_asKnown 6 0 0 150 [(0, .ref 78), (1, .int l1), (2, .int l2)] [.int (-1), .int l2, .ref 78] _ 0 0 _
            refine x_aloadn (x := 78) rfl rfl ?_
            refine x_aloadn (x := 78) rfl rfl ?_
            refine z_getR (N := 16) (b := 32) 7 0 rfl f_7_55 rfl J rfl 9984 ⟨rfl, rfl⟩ rfl ?_
            refine z_getR (N := 20) (b := 39) 1 3 rfl f_7_150 rfl J rfl 4099 ⟨rfl, rfl⟩ rfl ?_
            refine x_iloadn (x := l2) rfl rfl ?_
            refine x_iconst (v := 2) rfl ki_2 ?_
            refine x_inv (N := m_X8_at) (As := [.int l2, .int 2]) (b := 39) (st := [.ref 78, .int (-1), .int l2, .ref 78]) (dx9 := 1) (mc := 0) (ms := 0) (host := "") 8 rfl t_X8_at ⟨Or.inl q_7_69, i_X8_at.1, i_X8_at.2⟩ ⟨by decide, rfl⟩ (congrArg Prod.fst (J.1.1 39 (8, 4) rfl)) rfl (by decide) rfl rfl ⟨by decide, by decide⟩ (sf_X8_at_r39_c2d (jr_of rfl (by omega)) hD J rfl  (fun v26 h ev26 J S23 X24 X25 => ?_))
            have Sm := jSm_tr rfl Sm S23
            try rw [X24] at D
            try rw [← X25] at D
            show jX m_X7_asKnown 6 0 0 163 [(0, .ref 78), (1, .int l1), (2, .int l2)] [.int v26, .ref 78, .int (-1), .int l2, .ref 78] _ 0 0 _
            refine x_inv (N := m_X7_soulAt) (As := [.int v26]) (b := 78) (st := [.int (-1), .int l2, .ref 78]) (dx9 := 5) (mc := 0) (ms := 0) (host := "") 7 rfl t_X7_soulAt ⟨Or.inl q_7_153, i_X7_soulAt.1, i_X7_soulAt.2⟩ ⟨by decide, rfl⟩ (congrArg Prod.fst (J.1.1 78 (7, 16) rfl)) rfl (by decide) rfl rfl ⟨by decide, by decide⟩ (jC.of rfl k_X7_soulAt rfl ?_)
            show jX m_X7_soulAt 5 0 0 0 [(0, .ref 78), (1, .int v26)] [] _ 0 0 _
            refine x_iloadn (x := v26) rfl rfl ?_
            refine x_iflt (tgt := 36) rfl rfl (ti_lt rfl jk_0 ⟨fun c27 => ?_, fun c27 => ?_⟩)
            ·
              rw [if_pos (by omega)] at D
              refine x_iconst (v := (-1)) rfl ki_m1 ?_
              refine x_iret rfl rfl ?_
              show jX m_X7_asKnown 6 0 0 166 [(0, .ref 78), (1, .int l1), (2, .int l2)] [.int (-1), .int (-1), .int l2, .ref 78] _ 0 0 _
              refine x_inv (N := m_X7_bind) (As := [.int l2, .int (-1), .int (-1)]) (b := 78) (st := []) (dx9 := 5) (mc := 0) (ms := 0) (host := "") 7 rfl t_X7_bind ⟨Or.inl q_7_156, i_X7_bind.1, i_X7_bind.2⟩ ⟨by decide, rfl⟩ (congrArg Prod.fst (J.1.1 78 (7, 16) rfl)) rfl (by decide) rfl rfl ⟨by decide, by decide⟩ (jC.of rfl k_X7_bind rfl ?_)
              show jX m_X7_bind 5 0 0 0 [(0, .ref 78), (1, .int l2), (2, .int (-1)), (3, .int (-1))] [] _ 0 0 _
              refine x_iloadn (x := (-1)) rfl rfl ?_
              refine x_iconst (v := (-1)) rfl ki_m1 ?_
              refine x_iceq (tgt := 15) rfl rfl (ti_eq jk_m1 jk_m1 (br_t (by omega) ?_))
              refine x_vret rfl rfl ?_
              show jX m_X7_asKnown 6 0 0 169 [(0, .ref 78), (1, .int l1), (2, .int l2)] [] _ 0 0 _
              exact jX.sub (jsb_c rfl (jsb_c rfl (jsb_c rfl jsb_n))) (ct_X7_asKnown_r78d_169 hD hQ ih l1 l2 g0 g1 h (jr_of rfl (by omega)) (jr_of rfl (by omega)) (jr_of rfl (by omega)) (jr_of rfl (by omega)) (jmc S23 rfl (jmc S8 rfl (jmc S3 rfl z0))) (jmc S23 rfl (jmc S8 rfl (jmc S3 rfl z1))) (by omega) J Sm D)
            ·
              rw [if_neg (by omega)] at D
              refine x_iloadn (x := v26) rfl rfl ?_
              refine x_sipush (v := 600) rfl ks_600 ?_
              refine x_icge (tgt := 36) rfl rfl (ti_ge rfl jk_600 (br_f (by omega) ?_))
              refine x_iloadn (x := v26) rfl rfl ?_
              refine x_iconst (v := 3) rfl ki_3 ?_
              refine z_idiv rfl rfl jk_3 (by omega) (by omega) (fun v28 ev28 => ?_)
              refine x_aloadn (x := 78) rfl rfl ?_
              refine z_getR (N := 16) (b := 32) 7 0 rfl f_7_55 rfl J rfl 9984 ⟨rfl, rfl⟩ rfl ?_
              refine z_getR (N := 20) (b := 33) 1 0 rfl f_7_63 rfl J rfl 4096 ⟨rfl, rfl⟩ rfl ?_
              refine z_getM (N := 4) (v := g0) 8 3 rfl f_7_85 rfl J rfl (jmc S23 rfl (jmc S8 rfl (jmc S3 rfl z0))) ?_
              refine x_icge (tgt := 36) rfl rfl (ti_ge rfl rfl ⟨fun c29 => ?_, fun c29 => ?_⟩)
              ·
                rw [if_pos (by omega)] at D
                refine x_iconst (v := (-1)) rfl ki_m1 ?_
                refine x_iret rfl rfl ?_
                show jX m_X7_asKnown 6 0 0 166 [(0, .ref 78), (1, .int l1), (2, .int l2)] [.int (-1), .int (-1), .int l2, .ref 78] _ 0 0 _
                refine x_inv (N := m_X7_bind) (As := [.int l2, .int (-1), .int (-1)]) (b := 78) (st := []) (dx9 := 5) (mc := 0) (ms := 0) (host := "") 7 rfl t_X7_bind ⟨Or.inl q_7_156, i_X7_bind.1, i_X7_bind.2⟩ ⟨by decide, rfl⟩ (congrArg Prod.fst (J.1.1 78 (7, 16) rfl)) rfl (by decide) rfl rfl ⟨by decide, by decide⟩ (jC.of rfl k_X7_bind rfl ?_)
                show jX m_X7_bind 5 0 0 0 [(0, .ref 78), (1, .int l2), (2, .int (-1)), (3, .int (-1))] [] _ 0 0 _
                refine x_iloadn (x := (-1)) rfl rfl ?_
                refine x_iconst (v := (-1)) rfl ki_m1 ?_
                refine x_iceq (tgt := 15) rfl rfl (ti_eq jk_m1 jk_m1 (br_t (by omega) ?_))
                refine x_vret rfl rfl ?_
                show jX m_X7_asKnown 6 0 0 169 [(0, .ref 78), (1, .int l1), (2, .int l2)] [] _ 0 0 _
                exact jX.sub (jsb_c rfl (jsb_c rfl (jsb_c rfl jsb_n))) (ct_X7_asKnown_r78d_169 hD hQ ih l1 l2 g0 g1 h (jr_of rfl (by omega)) (jr_of rfl (by omega)) (jr_of rfl (by omega)) (jr_of rfl (by omega)) (jmc S23 rfl (jmc S8 rfl (jmc S3 rfl z0))) (jmc S23 rfl (jmc S8 rfl (jmc S3 rfl z1))) (by omega) J Sm D)
              ·
                rw [if_neg (by omega)] at D
                refine x_aloadn (x := 78) rfl rfl ?_
                refine z_getR (N := 16) (b := 82) 7 10 rfl f_7_37 rfl J rfl 9994 ⟨rfl, rfl⟩ rfl ?_
                refine x_iloadn (x := v26) rfl rfl ?_
                refine z_iald (N := 600) rfl J rfl sg_82_0_600_1_0_1 rfl (by omega) (fun v30 qv30 ev30 => ?_)
                try rw [vrd qv30 (show v26.toInt = v26.toInt from by omega)] at D
                refine x_goto (tgt := 37) rfl rfl ?_
                refine x_iret rfl rfl ?_
                show jX m_X7_asKnown 6 0 0 166 [(0, .ref 78), (1, .int l1), (2, .int l2)] [.int v30, .int (-1), .int l2, .ref 78] _ 0 0 _
                refine x_inv (N := m_X7_bind) (As := [.int l2, .int (-1), .int v30]) (b := 78) (st := []) (dx9 := 5) (mc := 0) (ms := 0) (host := "") 7 rfl t_X7_bind ⟨Or.inl q_7_156, i_X7_bind.1, i_X7_bind.2⟩ ⟨by decide, rfl⟩ (congrArg Prod.fst (J.1.1 78 (7, 16) rfl)) rfl (by decide) rfl rfl ⟨by decide, by decide⟩ (jC.of rfl k_X7_bind rfl ?_)
                show jX m_X7_bind 5 0 0 0 [(0, .ref 78), (1, .int l2), (2, .int (-1)), (3, .int v30)] [] _ 0 0 _
                refine x_iloadn (x := (-1)) rfl rfl ?_
                refine x_iconst (v := (-1)) rfl ki_m1 ?_
                refine x_iceq (tgt := 15) rfl rfl (ti_eq jk_m1 jk_m1 (br_t (by omega) ?_))
                refine x_vret rfl rfl ?_
                show jX m_X7_asKnown 6 0 0 169 [(0, .ref 78), (1, .int l1), (2, .int l2)] [] _ 0 0 _
                exact jX.sub (jsb_c rfl (jsb_c rfl (jsb_c rfl jsb_n))) (ct_X7_asKnown_r78d_169 hD hQ ih l1 l2 g0 g1 h (jr_of rfl (by omega)) (jr_of rfl (by omega)) (jr_of rfl (by omega)) (jr_of rfl (by omega)) (jmc S23 rfl (jmc S8 rfl (jmc S3 rfl z0))) (jmc S23 rfl (jmc S8 rfl (jmc S3 rfl z1))) (by omega) J Sm D)
          ·
            rw [if_neg (by omega)] at D
            refine x_aloadn (x := 78) rfl rfl ?_
            refine z_getR (N := 16) (b := 82) 7 10 rfl f_7_37 rfl J rfl 9994 ⟨rfl, rfl⟩ rfl ?_
            refine x_iloadn (x := v11) rfl rfl ?_
            refine z_iald (N := 600) rfl J rfl sg_82_0_600_1_0_1 rfl (by omega) (fun v31 qv31 ev31 => ?_)
            try rw [vrd qv31 (show v11.toInt = v11.toInt from by omega)] at D
            refine x_goto (tgt := 37) rfl rfl ?_
            refine x_iret rfl rfl ?_
            show jX m_X7_asKnown 6 0 0 150 [(0, .ref 78), (1, .int l1), (2, .int l2)] [.int v31, .int l2, .ref 78] _ 0 0 _
            refine x_aloadn (x := 78) rfl rfl ?_
            refine x_aloadn (x := 78) rfl rfl ?_
            refine z_getR (N := 16) (b := 32) 7 0 rfl f_7_55 rfl J rfl 9984 ⟨rfl, rfl⟩ rfl ?_
            refine z_getR (N := 20) (b := 39) 1 3 rfl f_7_150 rfl J rfl 4099 ⟨rfl, rfl⟩ rfl ?_
            refine x_iloadn (x := l2) rfl rfl ?_
            refine x_iconst (v := 2) rfl ki_2 ?_
            refine x_inv (N := m_X8_at) (As := [.int l2, .int 2]) (b := 39) (st := [.ref 78, .int v31, .int l2, .ref 78]) (dx9 := 1) (mc := 0) (ms := 0) (host := "") 8 rfl t_X8_at ⟨Or.inl q_7_69, i_X8_at.1, i_X8_at.2⟩ ⟨by decide, rfl⟩ (congrArg Prod.fst (J.1.1 39 (8, 4) rfl)) rfl (by decide) rfl rfl ⟨by decide, by decide⟩ (sf_X8_at_r39_c2d (jr_of rfl (by omega)) hD J rfl  (fun v35 h ev35 J S32 X33 X34 => ?_))
            have Sm := jSm_tr rfl Sm S32
            try rw [X33] at D
            try rw [← X34] at D
            show jX m_X7_asKnown 6 0 0 163 [(0, .ref 78), (1, .int l1), (2, .int l2)] [.int v35, .ref 78, .int v31, .int l2, .ref 78] _ 0 0 _
            refine x_inv (N := m_X7_soulAt) (As := [.int v35]) (b := 78) (st := [.int v31, .int l2, .ref 78]) (dx9 := 5) (mc := 0) (ms := 0) (host := "") 7 rfl t_X7_soulAt ⟨Or.inl q_7_153, i_X7_soulAt.1, i_X7_soulAt.2⟩ ⟨by decide, rfl⟩ (congrArg Prod.fst (J.1.1 78 (7, 16) rfl)) rfl (by decide) rfl rfl ⟨by decide, by decide⟩ (jC.of rfl k_X7_soulAt rfl ?_)
            show jX m_X7_soulAt 5 0 0 0 [(0, .ref 78), (1, .int v35)] [] _ 0 0 _
            refine x_iloadn (x := v35) rfl rfl ?_
            refine x_iflt (tgt := 36) rfl rfl (ti_lt rfl jk_0 ⟨fun c36 => ?_, fun c36 => ?_⟩)
            ·
              rw [if_pos (by omega)] at D
              refine x_iconst (v := (-1)) rfl ki_m1 ?_
              refine x_iret rfl rfl ?_
              show jX m_X7_asKnown 6 0 0 166 [(0, .ref 78), (1, .int l1), (2, .int l2)] [.int (-1), .int v31, .int l2, .ref 78] _ 0 0 _
              refine x_inv (N := m_X7_bind) (As := [.int l2, .int v31, .int (-1)]) (b := 78) (st := []) (dx9 := 5) (mc := 0) (ms := 0) (host := "") 7 rfl t_X7_bind ⟨Or.inl q_7_156, i_X7_bind.1, i_X7_bind.2⟩ ⟨by decide, rfl⟩ (congrArg Prod.fst (J.1.1 78 (7, 16) rfl)) rfl (by decide) rfl rfl ⟨by decide, by decide⟩ (jC.of rfl k_X7_bind rfl ?_)
              show jX m_X7_bind 5 0 0 0 [(0, .ref 78), (1, .int l2), (2, .int v31), (3, .int (-1))] [] _ 0 0 _
              refine x_iloadn (x := v31) rfl rfl ?_
              refine x_iconst (v := (-1)) rfl ki_m1 ?_
              refine x_iceq (tgt := 15) rfl rfl (ti_eq rfl jk_m1 ⟨fun c37 => ?_, fun c37 => ?_⟩)
              ·
                rw [if_pos (by omega)] at D
                refine x_vret rfl rfl ?_
                show jX m_X7_asKnown 6 0 0 169 [(0, .ref 78), (1, .int l1), (2, .int l2)] [] _ 0 0 _
                exact jX.sub (jsb_c rfl (jsb_c rfl (jsb_c rfl jsb_n))) (ct_X7_asKnown_r78d_169 hD hQ ih l1 l2 g0 g1 h (jr_of rfl (by omega)) (jr_of rfl (by omega)) (jr_of rfl (by omega)) (jr_of rfl (by omega)) (jmc S32 rfl (jmc S8 rfl (jmc S3 rfl z0))) (jmc S32 rfl (jmc S8 rfl (jmc S3 rfl z1))) (by omega) J Sm D)
              ·
                rw [if_neg (by omega)] at D
                refine x_iloadn (x := (-1)) rfl rfl ?_
                refine x_iconst (v := (-1)) rfl ki_m1 ?_
                refine x_iceq (tgt := 15) rfl rfl (ti_eq jk_m1 jk_m1 (br_t (by omega) ?_))
                refine x_vret rfl rfl ?_
                show jX m_X7_asKnown 6 0 0 169 [(0, .ref 78), (1, .int l1), (2, .int l2)] [] _ 0 0 _
                exact jX.sub (jsb_c rfl (jsb_c rfl (jsb_c rfl jsb_n))) (ct_X7_asKnown_r78d_169 hD hQ ih l1 l2 g0 g1 h (jr_of rfl (by omega)) (jr_of rfl (by omega)) (jr_of rfl (by omega)) (jr_of rfl (by omega)) (jmc S32 rfl (jmc S8 rfl (jmc S3 rfl z0))) (jmc S32 rfl (jmc S8 rfl (jmc S3 rfl z1))) (by omega) J Sm D)
            ·
              rw [if_neg (by omega)] at D
              refine x_iloadn (x := v35) rfl rfl ?_
              refine x_sipush (v := 600) rfl ks_600 ?_
              refine x_icge (tgt := 36) rfl rfl (ti_ge rfl jk_600 (br_f (by omega) ?_))
              refine x_iloadn (x := v35) rfl rfl ?_
              refine x_iconst (v := 3) rfl ki_3 ?_
              refine z_idiv rfl rfl jk_3 (by omega) (by omega) (fun v38 ev38 => ?_)
              refine x_aloadn (x := 78) rfl rfl ?_
              refine z_getR (N := 16) (b := 32) 7 0 rfl f_7_55 rfl J rfl 9984 ⟨rfl, rfl⟩ rfl ?_
              refine z_getR (N := 20) (b := 33) 1 0 rfl f_7_63 rfl J rfl 4096 ⟨rfl, rfl⟩ rfl ?_
              refine z_getM (N := 4) (v := g0) 8 3 rfl f_7_85 rfl J rfl (jmc S32 rfl (jmc S8 rfl (jmc S3 rfl z0))) ?_
              refine x_icge (tgt := 36) rfl rfl (ti_ge rfl rfl ⟨fun c39 => ?_, fun c39 => ?_⟩)
              ·
                rw [if_pos (by omega)] at D
                refine x_iconst (v := (-1)) rfl ki_m1 ?_
                refine x_iret rfl rfl ?_
                show jX m_X7_asKnown 6 0 0 166 [(0, .ref 78), (1, .int l1), (2, .int l2)] [.int (-1), .int v31, .int l2, .ref 78] _ 0 0 _
                refine x_inv (N := m_X7_bind) (As := [.int l2, .int v31, .int (-1)]) (b := 78) (st := []) (dx9 := 5) (mc := 0) (ms := 0) (host := "") 7 rfl t_X7_bind ⟨Or.inl q_7_156, i_X7_bind.1, i_X7_bind.2⟩ ⟨by decide, rfl⟩ (congrArg Prod.fst (J.1.1 78 (7, 16) rfl)) rfl (by decide) rfl rfl ⟨by decide, by decide⟩ (jC.of rfl k_X7_bind rfl ?_)
                show jX m_X7_bind 5 0 0 0 [(0, .ref 78), (1, .int l2), (2, .int v31), (3, .int (-1))] [] _ 0 0 _
                refine x_iloadn (x := v31) rfl rfl ?_
                refine x_iconst (v := (-1)) rfl ki_m1 ?_
                refine x_iceq (tgt := 15) rfl rfl (ti_eq rfl jk_m1 ⟨fun c40 => ?_, fun c40 => ?_⟩)
                ·
                  rw [if_pos (by omega)] at D
                  refine x_vret rfl rfl ?_
                  show jX m_X7_asKnown 6 0 0 169 [(0, .ref 78), (1, .int l1), (2, .int l2)] [] _ 0 0 _
                  exact jX.sub (jsb_c rfl (jsb_c rfl (jsb_c rfl jsb_n))) (ct_X7_asKnown_r78d_169 hD hQ ih l1 l2 g0 g1 h (jr_of rfl (by omega)) (jr_of rfl (by omega)) (jr_of rfl (by omega)) (jr_of rfl (by omega)) (jmc S32 rfl (jmc S8 rfl (jmc S3 rfl z0))) (jmc S32 rfl (jmc S8 rfl (jmc S3 rfl z1))) (by omega) J Sm D)
                ·
                  rw [if_neg (by omega)] at D
                  refine x_iloadn (x := (-1)) rfl rfl ?_
                  refine x_iconst (v := (-1)) rfl ki_m1 ?_
                  refine x_iceq (tgt := 15) rfl rfl (ti_eq jk_m1 jk_m1 (br_t (by omega) ?_))
                  refine x_vret rfl rfl ?_
                  show jX m_X7_asKnown 6 0 0 169 [(0, .ref 78), (1, .int l1), (2, .int l2)] [] _ 0 0 _
                  exact jX.sub (jsb_c rfl (jsb_c rfl (jsb_c rfl jsb_n))) (ct_X7_asKnown_r78d_169 hD hQ ih l1 l2 g0 g1 h (jr_of rfl (by omega)) (jr_of rfl (by omega)) (jr_of rfl (by omega)) (jr_of rfl (by omega)) (jmc S32 rfl (jmc S8 rfl (jmc S3 rfl z0))) (jmc S32 rfl (jmc S8 rfl (jmc S3 rfl z1))) (by omega) J Sm D)
              ·
                rw [if_neg (by omega)] at D
                refine x_aloadn (x := 78) rfl rfl ?_
                refine z_getR (N := 16) (b := 82) 7 10 rfl f_7_37 rfl J rfl 9994 ⟨rfl, rfl⟩ rfl ?_
                refine x_iloadn (x := v35) rfl rfl ?_
                refine z_iald (N := 600) rfl J rfl sg_82_0_600_1_0_1 rfl (by omega) (fun v41 qv41 ev41 => ?_)
                try rw [vrd qv41 (show v35.toInt = v35.toInt from by omega)] at D
                refine x_goto (tgt := 37) rfl rfl ?_
                refine x_iret rfl rfl ?_
                show jX m_X7_asKnown 6 0 0 166 [(0, .ref 78), (1, .int l1), (2, .int l2)] [.int v41, .int v31, .int l2, .ref 78] _ 0 0 _
                refine x_inv (N := m_X7_bind) (As := [.int l2, .int v31, .int v41]) (b := 78) (st := []) (dx9 := 5) (mc := 0) (ms := 0) (host := "") 7 rfl t_X7_bind ⟨Or.inl q_7_156, i_X7_bind.1, i_X7_bind.2⟩ ⟨by decide, rfl⟩ (congrArg Prod.fst (J.1.1 78 (7, 16) rfl)) rfl (by decide) rfl rfl ⟨by decide, by decide⟩ (jC.of rfl k_X7_bind rfl ?_)
                show jX m_X7_bind 5 0 0 0 [(0, .ref 78), (1, .int l2), (2, .int v31), (3, .int v41)] [] _ 0 0 _
                refine x_iloadn (x := v31) rfl rfl ?_
                refine x_iconst (v := (-1)) rfl ki_m1 ?_
                refine x_iceq (tgt := 15) rfl rfl (ti_eq rfl jk_m1 ⟨fun c42 => ?_, fun c42 => ?_⟩)
                ·
                  rw [if_pos (by omega)] at D
                  refine x_vret rfl rfl ?_
                  show jX m_X7_asKnown 6 0 0 169 [(0, .ref 78), (1, .int l1), (2, .int l2)] [] _ 0 0 _
                  exact jX.sub (jsb_c rfl (jsb_c rfl (jsb_c rfl jsb_n))) (ct_X7_asKnown_r78d_169 hD hQ ih l1 l2 g0 g1 h (jr_of rfl (by omega)) (jr_of rfl (by omega)) (jr_of rfl (by omega)) (jr_of rfl (by omega)) (jmc S32 rfl (jmc S8 rfl (jmc S3 rfl z0))) (jmc S32 rfl (jmc S8 rfl (jmc S3 rfl z1))) (by omega) J Sm D)
                ·
                  rw [if_neg (by omega)] at D
                  refine x_iloadn (x := v41) rfl rfl ?_
                  refine x_iconst (v := (-1)) rfl ki_m1 ?_
                  refine x_iceq (tgt := 15) rfl rfl (ti_eq rfl jk_m1 ⟨fun c43 => ?_, fun c43 => ?_⟩)
                  ·
                    rw [if_pos (by omega)] at D
                    refine x_vret rfl rfl ?_
                    show jX m_X7_asKnown 6 0 0 169 [(0, .ref 78), (1, .int l1), (2, .int l2)] [] _ 0 0 _
                    exact jX.sub (jsb_c rfl (jsb_c rfl (jsb_c rfl jsb_n))) (ct_X7_asKnown_r78d_169 hD hQ ih l1 l2 g0 g1 h (jr_of rfl (by omega)) (jr_of rfl (by omega)) (jr_of rfl (by omega)) (jr_of rfl (by omega)) (jmc S32 rfl (jmc S8 rfl (jmc S3 rfl z0))) (jmc S32 rfl (jmc S8 rfl (jmc S3 rfl z1))) (by omega) J Sm D)
                  ·
                    rw [if_neg (by omega)] at D
                    refine x_iloadn (x := v31) rfl rfl ?_
                    refine x_iloadn (x := v41) rfl rfl ?_
                    refine x_icne (tgt := 16) rfl rfl (ti_ne rfl rfl ⟨fun c44 => ?_, fun c44 => ?_⟩)
                    ·
                      rw [if_neg (by omega)] at D
                      refine x_aloadn (x := 78) rfl rfl ?_
                      refine x_iloadn (x := v31) rfl rfl ?_
                      refine x_iloadn (x := v41) rfl rfl ?_
                      refine x_inv (N := m_X7_mayBeOne) (As := [.int v31, .int v41]) (b := 78) (st := []) (dx9 := 4) (mc := 0) (ms := 0) (host := "") 7 rfl t_X7_mayBeOne ⟨Or.inl q_7_160, i_X7_mayBeOne.1, i_X7_mayBeOne.2⟩ ⟨by decide, rfl⟩ (congrArg Prod.fst (J.1.1 78 (7, 16) rfl)) rfl (by decide) rfl rfl ⟨by decide, by decide⟩ (sf_X7_mayBeOne_r78d (jr_of rfl (by omega)) (jr_of rfl (by omega)) hD J rfl  (fun v48 h ev48 J S45 X46 X47 => ?_))
                      have Sm := jSm_tr rfl Sm S45
                      try rw [X46] at D
                      try rw [← X47] at D
                      show jX m_X7_bind 5 0 0 22 [(0, .ref 78), (1, .int l2), (2, .int v31), (3, .int v41)] [.int v48] _ 0 0 _
                      refine x_ifeq (tgt := 42) rfl rfl (ti_eq rfl jk_0 ⟨fun c49 => ?_, fun c49 => ?_⟩)
                      ·
                        rw [if_pos (by omega)] at D
                        refine x_aloadn (x := 78) rfl rfl ?_
                        refine z_getM (N := 16) (v := g1) 7 13 rfl f_7_46 rfl J rfl (jmc S45 rfl (jmc S32 rfl (jmc S8 rfl (jmc S3 rfl z1)))) ?_
                        refine x_aloadn (x := 78) rfl rfl ?_
                        refine z_getR (N := 16) (b := 84) 7 12 rfl f_7_43 rfl J rfl 9996 ⟨rfl, rfl⟩ rfl ?_
                        refine z_alen (N := 200) (v := 200) rfl J rfl rfl (by decide) ?_
                        refine x_icge (tgt := 74) rfl rfl (ti_ge rfl jk_200 ⟨fun c50 => ?_, fun c50 => ?_⟩)
                        ·
                          rw [if_pos (by omega)] at D
                          refine x_vret rfl rfl ?_
                          show jX m_X7_asKnown 6 0 0 169 [(0, .ref 78), (1, .int l1), (2, .int l2)] [] _ 0 0 _
                          exact jX.sub (jsb_c rfl (jsb_c rfl (jsb_c rfl jsb_n))) (ct_X7_asKnown_r78d_169 hD hQ ih l1 l2 g0 g1 h (jr_of rfl (by omega)) (jr_of rfl (by omega)) (jr_of rfl (by omega)) (jr_of rfl (by omega)) (jmc S45 rfl (jmc S32 rfl (jmc S8 rfl (jmc S3 rfl z0)))) (jmc S45 rfl (jmc S32 rfl (jmc S8 rfl (jmc S3 rfl z1)))) (by omega) J Sm D)
                        ·
                          rw [if_neg (by omega)] at D
                          refine x_aloadn (x := 78) rfl rfl ?_
                          refine z_getR (N := 16) (b := 84) 7 12 rfl f_7_43 rfl J rfl 9996 ⟨rfl, rfl⟩ rfl ?_
                          refine x_aloadn (x := 78) rfl rfl ?_
                          refine z_getM (N := 16) (v := g1) 7 13 rfl f_7_46 rfl J rfl (jmc S45 rfl (jmc S32 rfl (jmc S8 rfl (jmc S3 rfl z1)))) ?_
                          refine x_iloadn (x := l2) rfl rfl ?_
                          refine z_iast (N := 200) (l := 0) (u := 200) (w := l2.toInt) rfl hD J Sm rfl rfl rfl (by omega) rfl (wr_84 (fun q1 q2 q3 q4 => by omega)) rfl (fun h w51 J Sm => ?_)
                          rw [vww w51 (show g1.toInt = g1.toInt from by omega) (show l2.toInt = l2.toInt from by omega)] at D
                          refine x_aloadn (x := 78) rfl rfl ?_
                          refine x_dup rfl rfl ?_
                          refine z_getM (N := 16) (v := g1) 7 13 rfl f_7_46 rfl J rfl (jmo w51 rfl (jmc S45 rfl (jmc S32 rfl (jmc S8 rfl (jmc S3 rfl z1))))) ?_
                          refine x_iconst (v := 1) rfl ki_1 ?_
                          refine z_iadd rfl rfl jk_1 (by omega) (fun v52 ev52 => ?_)
                          refine z_putI (N := 16) (w := v52.toInt) 7 13 rfl f_7_46 rfl (jfin_no TX7 RX7 16 rfl rfl) hD J Sm rfl rfl rfl (pw_78_13 (by omega)) rfl (fun h w53 J Sm => ?_)
                          rw [vwf w53 (show (g1.toInt + 1) = v52.toInt from by omega)] at D
                          refine x_vret rfl rfl ?_
                          show jX m_X7_asKnown 6 0 0 169 [(0, .ref 78), (1, .int l1), (2, .int l2)] [] _ 0 0 _
                          exact jX.sub (jsb_c rfl (jsb_c rfl (jsb_c rfl jsb_n))) (ct_X7_asKnown_r78d_169 hD hQ ih l1 l2 g0 v52 h (jr_of rfl (by omega)) (jr_of rfl (by omega)) (jr_of rfl (by omega)) (jr_of rfl (by omega)) (jmo w53 rfl (jmo w51 rfl (jmc S45 rfl (jmc S32 rfl (jmc S8 rfl (jmc S3 rfl z0)))))) (jmw w53) (by omega) J Sm D)
                      ·
                        rw [if_neg (by omega)] at D
                        refine x_aloadn (x := 78) rfl rfl ?_
                        refine x_iloadn (x := v31) rfl rfl ?_
                        refine x_iloadn (x := v41) rfl rfl ?_
                        refine z_mmin rfl q_7_163 (by decide) rfl rfl rfl (fun v54 ev54 => ?_)
                        refine x_iloadn (x := v31) rfl rfl ?_
                        refine x_iloadn (x := v41) rfl rfl ?_
                        refine z_mmax rfl q_7_166 (by decide) rfl rfl rfl (fun v55 ev55 => ?_)
                        try rw [show (min v31.toInt v41.toInt) = v54.toInt from by omega] at D
                        try rw [show (max v31.toInt v41.toInt) = v55.toInt from by omega] at D
                        refine x_inv (N := m_X7_merge) (As := [.int v54, .int v55]) (b := 78) (st := []) (dx9 := 1) (mc := 0) (ms := 0) (host := "") 7 rfl t_X7_merge ⟨Or.inl q_7_169, i_X7_merge.1, i_X7_merge.2⟩ ⟨by decide, rfl⟩ (congrArg Prod.fst (J.1.1 78 (7, 16) rfl)) rfl (by decide) rfl rfl ⟨by decide, by decide⟩ (sf_X7_merge_r78d (jr_of rfl (by omega)) (jr_of rfl (by omega)) hD J rfl  (fun h J S56 X57 => ?_))
                        have Sm := jSm_tr rfl Sm S56
                        rw [X57] at D
                        show jX m_X7_bind 5 0 0 39 [(0, .ref 78), (1, .int l2), (2, .int v31), (3, .int v41)] [] _ 0 0 _
                        refine x_goto (tgt := 74) rfl rfl ?_
                        refine x_vret rfl rfl ?_
                        show jX m_X7_asKnown 6 0 0 169 [(0, .ref 78), (1, .int l1), (2, .int l2)] [] _ 0 0 _
                        exact jX.sub (jsb_c rfl (jsb_c rfl (jsb_c rfl jsb_n))) (ct_X7_asKnown_r78d_169 hD hQ ih l1 l2 g0 g1 h (jr_of rfl (by omega)) (jr_of rfl (by omega)) (jr_of rfl (by omega)) (jr_of rfl (by omega)) (jmc S56 rfl (jmc S45 rfl (jmc S32 rfl (jmc S8 rfl (jmc S3 rfl z0))))) (jmc S56 rfl (jmc S45 rfl (jmc S32 rfl (jmc S8 rfl (jmc S3 rfl z1))))) (by omega) J Sm D)
                    ·
                      rw [if_pos (by omega)] at D
                      refine x_vret rfl rfl ?_
                      show jX m_X7_asKnown 6 0 0 169 [(0, .ref 78), (1, .int l1), (2, .int l2)] [] _ 0 0 _
                      exact jX.sub (jsb_c rfl (jsb_c rfl (jsb_c rfl jsb_n))) (ct_X7_asKnown_r78d_169 hD hQ ih l1 l2 g0 g1 h (jr_of rfl (by omega)) (jr_of rfl (by omega)) (jr_of rfl (by omega)) (jr_of rfl (by omega)) (jmc S32 rfl (jmc S8 rfl (jmc S3 rfl z0))) (jmc S32 rfl (jmc S8 rfl (jmc S3 rfl z1))) (by omega) J Sm D)
set_option maxRecDepth 100000 in
set_option maxHeartbeats 4000000 in
theorem ct_X7_asKnown_r78d_96 {Dy : jH → Prop} {h0 : jH} {Q : Option Value → jH → Prop} {dr : jW} (hD : jDk Dy) (hQ : ∀ hx9, jJ jSgX Dy hx9 → jSm fp_X7_asKnown_r78d h0 hx9 → dr = vw hx9 → Q none hx9) : ∀ (l1 : Int32) (g0 : Int32) (h : jH), 0 ≤ l1.toInt ∧ l1.toInt ≤ 146399 → 0 ≤ g0.toInt ∧ g0.toInt ≤ 200 → jiv h 33 3 = g0 → jJ jSgX Dy h → jSm fp_X7_asKnown_r78d h0 h → d_X7_asKnown_r78d_96  l1.toInt (vw h) = dr → jX m_X7_asKnown 6 0 0 96 [(0, .ref 78), (1, .int l1)] [] h 0 0 Q := by
  intro l1 g0 h y0 y1 z0  J Sm D
  unfold d_X7_asKnown_r78d_96 at D
  try rw [vrf z0] at D
  refine x_aloadn (x := 78) rfl rfl ?_
  refine x_iconst (v := 0) rfl ki_0 ?_
  refine z_putI (N := 16) (w := 0) 7 13 rfl f_7_46 rfl (jfin_no TX7 RX7 16 rfl rfl) hD J Sm rfl rfl jk_0 (pw_78_13 (by omega)) rfl (fun h w1 J Sm => ?_)
  rw [vwf w1 (show 0 = (0 : Int32).toInt from by have := jk_0; omega)] at D
  refine x_iconst (v := 0) rfl ki_0 ?_
  refine x_istoren (lsx9 := [(2, .int 0), (0, .ref 78), (1, .int l1)]) rfl rfl rfl ?_
  exact jX.sub (jsb_c rfl (jsb_c rfl (jsb_c rfl jsb_n))) (ct_X7_asKnown_r78d_103 hD hQ  201 l1 0 g0 0 h (by have := jk_0; omega) (jr_of rfl (by omega)) (jr_of jk_0 (by omega)) (jr_of rfl (by omega)) (jr_of jk_0 (by omega)) (jmo w1 rfl z0) (jmw w1) J Sm (by rw [jk_0]; exact D))
set_option maxRecDepth 100000 in
set_option maxHeartbeats 4000000 in
theorem ct_X7_asKnown_r78d_82 {Dy : jH → Prop} {h0 : jH} {Q : Option Value → jH → Prop} {dr : jW} {K22 : Int → Int → jW → jW} {R22 : Int} (hD : jDk Dy) (hQ : ∀ hx9, jJ jSgX Dy hx9 → jSm fp_X7_asKnown_r78d h0 hx9 → dr = vw hx9 → Q none hx9) (k22 : ∀ (l1 : Int32) (l2 : Int32) (h : jH), 600 - l2.toInt < R22 → 0 ≤ l1.toInt ∧ l1.toInt ≤ 146399 → 0 ≤ l2.toInt ∧ l2.toInt ≤ 600 → jJ jSgX Dy h → jSm fp_X7_asKnown_r78d h0 h → K22 l1.toInt l2.toInt (vw h) = dr → jX m_X7_asKnown 6 0 0 22 [(0, .ref 78), (1, .int l1), (2, .int l2)] [] h 0 0 Q) : ∀ (l1 : Int32) (l2 : Int32) (s0 : Int32) (s1 : Int32) (h : jH), 0 ≤ l1.toInt ∧ l1.toInt ≤ 146399 → 0 ≤ l2.toInt ∧ l2.toInt ≤ 599 → 0 ≤ s0.toInt ∧ s0.toInt ≤ 599 → 0 ≤ s1.toInt ∧ s1.toInt ≤ 599 → 600 - l2.toInt ≤ R22 → jJ jSgX Dy h → jSm fp_X7_asKnown_r78d h0 h → d_X7_asKnown_r78d_82 K22  l1.toInt l2.toInt s0.toInt s1.toInt (vw h) = dr → jX m_X7_asKnown 6 0 0 82 [(0, .ref 78), (1, .int l1), (2, .int l2)] [.int s0, .int s1, .ref 82] h 0 0 Q := by
  intro l1 l2 s0 s1 h y0 y1 y2 y3  m22 J Sm D
  unfold d_X7_asKnown_r78d_82 at D
  refine z_iast (N := 600) (l := 0) (u := 600) (w := s0.toInt) rfl hD J Sm rfl rfl rfl (by omega) rfl (wr_82 (fun q1 q2 q3 q4 => by omega)) rfl (fun h w1 J Sm => ?_)
  rw [vww w1 (show s1.toInt = s1.toInt from by omega) (show s0.toInt = s0.toInt from by omega)] at D
  refine x_aloadn (x := 78) rfl rfl ?_
  refine z_getR (N := 16) (b := 83) 7 11 rfl f_7_40 rfl J rfl 9995 ⟨rfl, rfl⟩ rfl ?_
  refine x_iloadn (x := l2) rfl rfl ?_
  refine x_iconst (v := (-1)) rfl ki_m1 ?_
  refine z_iast (N := 600) (l := 0) (u := 600) (w := (-1)) rfl hD J Sm rfl rfl rfl (by omega) jk_m1 (wr_83 (fun q1 q2 q3 q4 => by omega)) rfl (fun h w2 J Sm => ?_)
  rw [vww w2 (show l2.toInt = l2.toInt from by omega) (show (-1) = ((-1) : Int32).toInt from by have := jk_m1; omega)] at D
  refine z_iinc (x := l2) (lsx9 := fun v3 => [(2, .int v3), (0, .ref 78), (1, .int l1)]) rfl rfl rfl jko_1 (by omega) rfl (fun _ => rfl) (fun v3 ev3 => ?_)
  refine x_goto (tgt := 22) rfl rfl ?_
  try rw [show (l2.toInt + 1) = v3.toInt from by omega] at D
  exact jX.sub (jsb_c rfl (jsb_c rfl (jsb_c rfl jsb_n))) (k22 l1 v3 h (by omega) (jr_of rfl (by omega)) (jr_of rfl (by omega)) J Sm D)
set_option maxRecDepth 100000 in
set_option maxHeartbeats 4000000 in
theorem ct_X7_asKnown_r78d_100082 {Dy : jH → Prop} {h0 : jH} {Q : Option Value → jH → Prop} {dr : jW} {K22 : Int → Int → jW → jW} {R22 : Int} (hD : jDk Dy) (hQ : ∀ hx9, jJ jSgX Dy hx9 → jSm fp_X7_asKnown_r78d h0 hx9 → dr = vw hx9 → Q none hx9) (k22 : ∀ (l1 : Int32) (l2 : Int32) (h : jH), 600 - l2.toInt < R22 → 0 ≤ l1.toInt ∧ l1.toInt ≤ 146399 → 0 ≤ l2.toInt ∧ l2.toInt ≤ 600 → jJ jSgX Dy h → jSm fp_X7_asKnown_r78d h0 h → K22 l1.toInt l2.toInt (vw h) = dr → jX m_X7_asKnown 6 0 0 22 [(0, .ref 78), (1, .int l1), (2, .int l2)] [] h 0 0 Q) : ∀ (l1 : Int32) (l2 : Int32) (s1 : Int32) (h : jH), 0 ≤ l1.toInt ∧ l1.toInt ≤ 146399 → 0 ≤ l2.toInt ∧ l2.toInt ≤ 599 → 0 ≤ s1.toInt ∧ s1.toInt ≤ 599 → 600 - l2.toInt ≤ R22 → jJ jSgX Dy h → jSm fp_X7_asKnown_r78d h0 h → d_X7_asKnown_r78d_100082 K22  l1.toInt l2.toInt s1.toInt (vw h) = dr → jX m_X7_asKnown 6 0 0 82 [(0, .ref 78), (1, .int l1), (2, .int l2)] [.int (-1), .int s1, .ref 82] h 0 0 Q := by
  intro l1 l2 s1 h y0 y1 y2  m22 J Sm D
  unfold d_X7_asKnown_r78d_100082 at D
  refine z_iast (N := 600) (l := 0) (u := 600) (w := (-1)) rfl hD J Sm rfl rfl rfl (by omega) jk_m1 (wr_82 (fun q1 q2 q3 q4 => by omega)) rfl (fun h w1 J Sm => ?_)
  rw [vww w1 (show s1.toInt = s1.toInt from by omega) (show (-1) = ((-1) : Int32).toInt from by have := jk_m1; omega)] at D
  refine x_aloadn (x := 78) rfl rfl ?_
  refine z_getR (N := 16) (b := 83) 7 11 rfl f_7_40 rfl J rfl 9995 ⟨rfl, rfl⟩ rfl ?_
  refine x_iloadn (x := l2) rfl rfl ?_
  refine x_iconst (v := (-1)) rfl ki_m1 ?_
  refine z_iast (N := 600) (l := 0) (u := 600) (w := (-1)) rfl hD J Sm rfl rfl rfl (by omega) jk_m1 (wr_83 (fun q1 q2 q3 q4 => by omega)) rfl (fun h w2 J Sm => ?_)
  rw [vww w2 (show l2.toInt = l2.toInt from by omega) (show (-1) = ((-1) : Int32).toInt from by have := jk_m1; omega)] at D
  refine z_iinc (x := l2) (lsx9 := fun v3 => [(2, .int v3), (0, .ref 78), (1, .int l1)]) rfl rfl rfl jko_1 (by omega) rfl (fun _ => rfl) (fun v3 ev3 => ?_)
  refine x_goto (tgt := 22) rfl rfl ?_
  try rw [show (l2.toInt + 1) = v3.toInt from by omega] at D
  exact jX.sub (jsb_c rfl (jsb_c rfl (jsb_c rfl jsb_n))) (k22 l1 v3 h (by omega) (jr_of rfl (by omega)) (jr_of rfl (by omega)) J Sm D)
set_option maxRecDepth 100000 in
set_option maxHeartbeats 4000000 in
theorem ct_X7_asKnown_r78d_81 {Dy : jH → Prop} {h0 : jH} {Q : Option Value → jH → Prop} {dr : jW} {K22 : Int → Int → jW → jW} {R22 : Int} (hD : jDk Dy) (hQ : ∀ hx9, jJ jSgX Dy hx9 → jSm fp_X7_asKnown_r78d h0 hx9 → dr = vw hx9 → Q none hx9) (k22 : ∀ (l1 : Int32) (l2 : Int32) (h : jH), 600 - l2.toInt < R22 → 0 ≤ l1.toInt ∧ l1.toInt ≤ 146399 → 0 ≤ l2.toInt ∧ l2.toInt ≤ 600 → jJ jSgX Dy h → jSm fp_X7_asKnown_r78d h0 h → K22 l1.toInt l2.toInt (vw h) = dr → jX m_X7_asKnown 6 0 0 22 [(0, .ref 78), (1, .int l1), (2, .int l2)] [] h 0 0 Q) : ∀ (l1 : Int32) (l2 : Int32) (s0 : Int32) (h : jH), 0 ≤ l1.toInt ∧ l1.toInt ≤ 146399 → 0 ≤ l2.toInt ∧ l2.toInt ≤ 599 → 0 ≤ s0.toInt ∧ s0.toInt ≤ 599 → 600 - l2.toInt ≤ R22 → jJ jSgX Dy h → jSm fp_X7_asKnown_r78d h0 h → d_X7_asKnown_r78d_81 K22  l1.toInt l2.toInt s0.toInt (vw h) = dr → jX m_X7_asKnown 6 0 0 81 [(0, .ref 78), (1, .int l1), (2, .int l2)] [.int s0, .ref 82] h 0 0 Q := by
  intro l1 l2 s0 h y0 y1 y2  m22 J Sm D
  unfold d_X7_asKnown_r78d_81 at D
  refine x_iconst (v := (-1)) rfl ki_m1 ?_
  exact jX.sub (jsb_c rfl (jsb_c rfl (jsb_c rfl jsb_n))) (ct_X7_asKnown_r78d_100082 hD hQ k22 l1 l2 s0 h (jr_of rfl (by omega)) (jr_of rfl (by omega)) (jr_of rfl (by omega)) (by omega) J Sm D)
set_option maxRecDepth 100000 in
set_option maxHeartbeats 4000000 in
theorem ct_X7_asKnown_r78d_22 {Dy : jH → Prop} {h0 : jH} {Q : Option Value → jH → Prop} {dr : jW} (hD : jDk Dy) (hQ : ∀ hx9, jJ jSgX Dy hx9 → jSm fp_X7_asKnown_r78d h0 hx9 → dr = vw hx9 → Q none hx9) : ∀ r : Nat, ∀ (l1 : Int32) (l2 : Int32) (h : jH), 600 - l2.toInt < (r : Int) → 0 ≤ l1.toInt ∧ l1.toInt ≤ 146399 → 0 ≤ l2.toInt ∧ l2.toInt ≤ 600 → jJ jSgX Dy h → jSm fp_X7_asKnown_r78d h0 h → d_X7_asKnown_r78d_22 r l1.toInt l2.toInt (vw h) = dr → jX m_X7_asKnown 6 0 0 22 [(0, .ref 78), (1, .int l1), (2, .int l2)] [] h 0 0 Q := by
  intro r
  induction r with
  | zero =>
    intro l1 l2 h hm y0 y1   J Sm D
    exfalso
    omega
  | succ r ih =>
    intro l1 l2 h hm y0 y1   J Sm D
    rw [d_X7_asKnown_r78d_22.eq_2] at D
    refine x_iloadn (x := l2) rfl rfl ?_
    refine x_aloadn (x := 78) rfl rfl ?_
    refine z_getR (N := 16) (b := 32) 7 0 rfl f_7_55 rfl J rfl 9984 ⟨rfl, rfl⟩ rfl ?_
    refine z_getR (N := 20) (b := 33) 1 0 rfl f_7_63 rfl J rfl 4096 ⟨rfl, rfl⟩ rfl ?_
    refine z_getI (N := 4) 8 3 rfl f_7_85 rfl J rfl sg_33_3_4_1_0_1 (fun v1 qv1 ev1 => ?_)
    try rw [vrf qv1] at D
    refine x_iconst (v := 3) rfl ki_3 ?_
    refine z_imul rfl rfl jk_3 (by omega) (fun v2 ev2 => ?_)
    refine x_icge (tgt := 96) rfl rfl (ti_ge rfl rfl ⟨fun c3 => ?_, fun c3 => ?_⟩)
    ·
      rw [if_pos (by omega)] at D
      exact jX.sub (jsb_c rfl (jsb_c rfl jsb_n)) (ct_X7_asKnown_r78d_96 hD hQ  l1 v1 h (jr_of rfl (by omega)) (jr_of rfl (by omega)) qv1 J Sm D)
    ·
      rw [if_neg (by omega)] at D
      refine x_iloadn (x := l2) rfl rfl ?_
      refine x_sipush (v := 600) rfl ks_600 ?_
      refine x_icge (tgt := 96) rfl rfl (ti_ge rfl jk_600 (br_f (by omega) ?_))
      refine x_aloadn (x := 78) rfl rfl ?_
      refine z_getR (N := 16) (b := 82) 7 10 rfl f_7_37 rfl J rfl 9994 ⟨rfl, rfl⟩ rfl ?_
      refine x_iloadn (x := l2) rfl rfl ?_
      refine x_aloadn (x := 78) rfl rfl ?_
      refine z_getR (N := 16) (b := 79) 7 7 rfl f_7_27 rfl J rfl 9991 ⟨rfl, rfl⟩ rfl ?_
      refine x_iloadn (x := l2) rfl rfl ?_
      refine z_iald (N := 600) rfl J rfl sg_79_0_600_1_0_1 rfl (by omega) (fun v4 qv4 ev4 => ?_)
      try rw [vrd qv4 (show l2.toInt = l2.toInt from by omega)] at D
      refine x_iconst (v := (-1)) rfl ki_m1 ?_
      refine x_iceq (tgt := 81) rfl rfl (ti_eq rfl jk_m1 ⟨fun c5 => ?_, fun c5 => ?_⟩)
      ·
        rw [if_pos (by omega)] at D
        exact jX.sub (jsb_c rfl (jsb_c rfl (jsb_c rfl jsb_n))) (ct_X7_asKnown_r78d_81 hD hQ ih l1 l2 l2 h (jr_of rfl (by omega)) (jr_of rfl (by omega)) (jr_of rfl (by omega)) (by omega) J Sm D)
      ·
        rw [if_neg (by omega)] at D
        refine x_aloadn (x := 78) rfl rfl ?_
        refine z_getR (N := 16) (b := 32) 7 0 rfl f_7_55 rfl J rfl 9984 ⟨rfl, rfl⟩ rfl ?_
        refine z_getR (N := 20) (b := 33) 1 0 rfl f_7_63 rfl J rfl 4096 ⟨rfl, rfl⟩ rfl ?_
        refine x_iloadn (x := l2) rfl rfl ?_
        refine x_iconst (v := 3) rfl ki_3 ?_
        refine z_idiv rfl rfl jk_3 (by omega) (by omega) (fun v6 ev6 => ?_)
        refine x_iloadn (x := l1) rfl rfl ?_
        try rw [show (l2.toInt / 3) = v6.toInt from by omega] at D
        refine x_inv (N := m_X8_isKnown) (As := [.int v6, .int l1]) (b := 33) (st := [.int l2, .ref 82]) (dx9 := 1) (mc := 0) (ms := 0) (host := "") 8 rfl t_X8_isKnown ⟨Or.inl q_7_147, i_X8_isKnown.1, i_X8_isKnown.2⟩ ⟨by decide, rfl⟩ (congrArg Prod.fst (J.1.1 33 (8, 4) rfl)) rfl (by decide) rfl rfl ⟨by decide, by decide⟩ (sf_X8_isKnown_r33d (jr_of rfl (by omega)) hD J rfl  (fun v10 h ev10 J S7 X8 X9 => ?_))
        have Sm := jSm_tr rfl Sm S7
        try rw [X8] at D
        try rw [← X9] at D
        show jX m_X7_asKnown 6 0 0 74 [(0, .ref 78), (1, .int l1), (2, .int l2)] [.int v10, .int l2, .ref 82] _ 0 0 _
        refine x_ifeq (tgt := 81) rfl rfl (ti_eq rfl jk_0 ⟨fun c11 => ?_, fun c11 => ?_⟩)
        ·
          rw [if_pos (by omega)] at D
          exact jX.sub (jsb_c rfl (jsb_c rfl (jsb_c rfl jsb_n))) (ct_X7_asKnown_r78d_81 hD hQ ih l1 l2 l2 h (jr_of rfl (by omega)) (jr_of rfl (by omega)) (jr_of rfl (by omega)) (by omega) J Sm D)
        ·
          rw [if_neg (by omega)] at D
          refine x_iloadn (x := l2) rfl rfl ?_
          refine x_goto (tgt := 82) rfl rfl ?_
          exact jX.sub (jsb_c rfl (jsb_c rfl (jsb_c rfl jsb_n))) (ct_X7_asKnown_r78d_82 hD hQ ih l1 l2 l2 l2 h (jr_of rfl (by omega)) (jr_of rfl (by omega)) (jr_of rfl (by omega)) (jr_of rfl (by omega)) (by omega) J Sm D)
set_option maxRecDepth 100000 in
set_option maxHeartbeats 4000000 in
theorem sf_X7_asKnown_r78d {Dy : jH → Prop} {h : jH} {Q : Option Value → jH → Prop} {dr : jW} {a1 : Int32} (y1 : 0 ≤ a1.toInt ∧ a1.toInt ≤ 146399) (hD : jDk Dy) (J : jJ jSgX Dy h) (D : d_X7_asKnown_r78d a1.toInt (vw h) = dr) (hQ : ∀ hx9, jJ jSgX Dy hx9 → jSm fp_X7_asKnown_r78d h hx9 → dr = vw hx9 → Q none hx9) : jC m_X7_asKnown 6 0 0 [.ref 78, .int a1] h Q := by
  refine jC.of rfl k_X7_asKnown rfl ?_
  have Sm := jSm_rf fp_X7_asKnown_r78d h
  show jX m_X7_asKnown 6 0 0 0 [(0, .ref 78), (1, .int a1)] [] _ 0 0 _
  unfold d_X7_asKnown_r78d at D
  refine x_aloadn (x := 78) rfl rfl ?_
  refine z_getR (N := 16) (b := 86) 7 15 rfl f_7_52 rfl J rfl 9999 ⟨rfl, rfl⟩ rfl ?_
  refine x_iloadn (x := a1) rfl rfl ?_
  refine x_iconst (v := 0) rfl ki_0 ?_
  refine x_aloadn (x := 78) rfl rfl ?_
  refine z_getR (N := 16) (b := 32) 7 0 rfl f_7_55 rfl J rfl 9984 ⟨rfl, rfl⟩ rfl ?_
  refine z_getI0 (N := 20) 1 19 rfl f_7_140 rfl J rfl (fun v1 qv1 => ?_)
  have ev1 := jfull v1
  try rw [vrf qv1] at D
  refine x_inst (N := m_X11_isFresh) (As := [.ref 86, .int a1, .int 0, .int v1]) (st := []) (dx9 := 5) (mc := 0) (ms := 0) (host := "ParishChest") rfl t_X11_isFresh ⟨Or.inr q_7_143, s_X11_isFresh⟩ rfl (by decide) rfl rfl ⟨by decide, by decide⟩ (jC.of rfl k_X11_isFresh rfl ?_)
  show jX m_X11_isFresh 5 0 0 0 [(0, .ref 86), (1, .int a1), (2, .int 0), (3, .int v1)] [] _ 0 0 _
  refine x_aloadn (x := 86) rfl rfl ?_
  refine z_alen (N := 3) (v := 3) rfl J rfl rfl (by decide) ?_
  refine x_iconst (v := 3) rfl ki_3 ?_
  refine x_icge (tgt := 8) rfl rfl (ti_ge jk_3 jk_3 (br_t (by omega) ?_))
  refine x_aloadn (x := 86) rfl rfl ?_
  refine x_iconst (v := 0) rfl ki_0 ?_
  refine z_iald0 (N := 3) rfl J rfl jk_0 (by omega) (fun v2 qv2 => ?_)
  have ev2 := jfull v2
  try rw [vrn (n := 0) (by decide) qv2] at D
  refine x_iloadn (x := a1) rfl rfl ?_
  refine x_icne (tgt := 33) rfl rfl (ti_ne rfl rfl ⟨fun c3 => ?_, fun c3 => ?_⟩)
  ·
    rw [if_neg (by omega)] at D
    refine x_iconst (v := 0) rfl ki_0 ?_
    refine x_istore (lsx9 := [(4, .int 0), (0, .ref 86), (1, .int a1), (2, .int 0), (3, .int v1)]) rfl rfl rfl ?_
    refine x_aloadn (x := 86) rfl rfl ?_
    refine x_iconst (v := 0) rfl ki_0 ?_
    refine x_iloadn (x := a1) rfl rfl ?_
    refine z_iast (N := 3) (l := 0) (u := 3) (w := a1.toInt) rfl hD J Sm rfl rfl jk_0 (by omega) rfl (wr_86) rfl (fun h w4 J Sm => ?_)
    rw [vwn (n := 0) (by decide) w4 (show a1.toInt = a1.toInt from by omega)] at D
    refine x_aloadn (x := 86) rfl rfl ?_
    refine x_iconst (v := 1) rfl ki_1 ?_
    refine x_iloadn (x := 0) rfl rfl ?_
    refine z_iast (N := 3) (l := 0) (u := 3) (w := 0) rfl hD J Sm rfl rfl jk_1 (by omega) jk_0 (wr_86) rfl (fun h w5 J Sm => ?_)
    rw [vwn (n := 1) (by decide) w5 (show 0 = (0 : Int32).toInt from by have := jk_0; omega)] at D
    refine x_aloadn (x := 86) rfl rfl ?_
    refine x_iconst (v := 2) rfl ki_2 ?_
    refine x_iloadn (x := v1) rfl rfl ?_
    refine z_iast (N := 3) (l := 0) (u := 3) (w := v1.toInt) rfl hD J Sm rfl rfl jk_2 (by omega) rfl (wr_86) rfl (fun h w6 J Sm => ?_)
    rw [vwn (n := 2) (by decide) w6 (show v1.toInt = v1.toInt from by omega)] at D
    refine x_iload (x := 0) rfl rfl ?_
    refine x_zret rfl rfl (by decide) ?_
    show jX m_X7_asKnown 6 0 0 16 [(0, .ref 78), (1, .int a1)] [.int 0] _ 0 0 _
    refine x_ifeq (tgt := 20) rfl rfl (ti_eq jk_0 jk_0 (br_t (by omega) ?_))
    refine x_iconst (v := 0) rfl ki_0 ?_
    refine x_istoren (lsx9 := [(2, .int 0), (0, .ref 78), (1, .int a1)]) rfl rfl rfl ?_
    exact jX.sub (jsb_c rfl (jsb_c rfl (jsb_c rfl jsb_n))) (ct_X7_asKnown_r78d_22 hD hQ  601 a1 0 h (by have := jk_0; omega) (jr_of rfl (by omega)) (jr_of jk_0 (by omega)) J Sm (by rw [jk_0]; exact D))
  ·
    rw [if_pos (by omega)] at D
    refine x_aloadn (x := 86) rfl rfl ?_
    refine x_iconst (v := 1) rfl ki_1 ?_
    refine z_iald0 (N := 3) rfl J rfl jk_1 (by omega) (fun v7 qv7 => ?_)
    have ev7 := jfull v7
    try rw [vrn (n := 1) (by decide) qv7] at D
    refine x_iloadn (x := 0) rfl rfl ?_
    refine x_icne (tgt := 33) rfl rfl (ti_ne rfl jk_0 ⟨fun c8 => ?_, fun c8 => ?_⟩)
    ·
      rw [if_neg (by omega)] at D
      refine x_iconst (v := 0) rfl ki_0 ?_
      refine x_istore (lsx9 := [(4, .int 0), (0, .ref 86), (1, .int a1), (2, .int 0), (3, .int v1)]) rfl rfl rfl ?_
      refine x_aloadn (x := 86) rfl rfl ?_
      refine x_iconst (v := 0) rfl ki_0 ?_
      refine x_iloadn (x := a1) rfl rfl ?_
      refine z_iast (N := 3) (l := 0) (u := 3) (w := a1.toInt) rfl hD J Sm rfl rfl jk_0 (by omega) rfl (wr_86) rfl (fun h w9 J Sm => ?_)
      rw [vwn (n := 0) (by decide) w9 (show a1.toInt = a1.toInt from by omega)] at D
      refine x_aloadn (x := 86) rfl rfl ?_
      refine x_iconst (v := 1) rfl ki_1 ?_
      refine x_iloadn (x := 0) rfl rfl ?_
      refine z_iast (N := 3) (l := 0) (u := 3) (w := 0) rfl hD J Sm rfl rfl jk_1 (by omega) jk_0 (wr_86) rfl (fun h w10 J Sm => ?_)
      rw [vwn (n := 1) (by decide) w10 (show 0 = (0 : Int32).toInt from by have := jk_0; omega)] at D
      refine x_aloadn (x := 86) rfl rfl ?_
      refine x_iconst (v := 2) rfl ki_2 ?_
      refine x_iloadn (x := v1) rfl rfl ?_
      refine z_iast (N := 3) (l := 0) (u := 3) (w := v1.toInt) rfl hD J Sm rfl rfl jk_2 (by omega) rfl (wr_86) rfl (fun h w11 J Sm => ?_)
      rw [vwn (n := 2) (by decide) w11 (show v1.toInt = v1.toInt from by omega)] at D
      refine x_iload (x := 0) rfl rfl ?_
      refine x_zret rfl rfl (by decide) ?_
      show jX m_X7_asKnown 6 0 0 16 [(0, .ref 78), (1, .int a1)] [.int 0] _ 0 0 _
      refine x_ifeq (tgt := 20) rfl rfl (ti_eq jk_0 jk_0 (br_t (by omega) ?_))
      refine x_iconst (v := 0) rfl ki_0 ?_
      refine x_istoren (lsx9 := [(2, .int 0), (0, .ref 78), (1, .int a1)]) rfl rfl rfl ?_
      exact jX.sub (jsb_c rfl (jsb_c rfl (jsb_c rfl jsb_n))) (ct_X7_asKnown_r78d_22 hD hQ  601 a1 0 h (by have := jk_0; omega) (jr_of rfl (by omega)) (jr_of jk_0 (by omega)) J Sm (by rw [jk_0]; exact D))
    ·
      rw [if_pos (by omega)] at D
      refine x_aloadn (x := 86) rfl rfl ?_
      refine x_iconst (v := 2) rfl ki_2 ?_
      refine z_iald0 (N := 3) rfl J rfl jk_2 (by omega) (fun v12 qv12 => ?_)
      have ev12 := jfull v12
      try rw [vrn (n := 2) (by decide) qv12] at D
      refine x_iloadn (x := v1) rfl rfl ?_
      refine x_icne (tgt := 33) rfl rfl (ti_ne rfl rfl ⟨fun c13 => ?_, fun c13 => ?_⟩)
      ·
        rw [if_neg (by omega)] at D
        refine x_iconst (v := 0) rfl ki_0 ?_
        refine x_istore (lsx9 := [(4, .int 0), (0, .ref 86), (1, .int a1), (2, .int 0), (3, .int v1)]) rfl rfl rfl ?_
        refine x_aloadn (x := 86) rfl rfl ?_
        refine x_iconst (v := 0) rfl ki_0 ?_
        refine x_iloadn (x := a1) rfl rfl ?_
        refine z_iast (N := 3) (l := 0) (u := 3) (w := a1.toInt) rfl hD J Sm rfl rfl jk_0 (by omega) rfl (wr_86) rfl (fun h w14 J Sm => ?_)
        rw [vwn (n := 0) (by decide) w14 (show a1.toInt = a1.toInt from by omega)] at D
        refine x_aloadn (x := 86) rfl rfl ?_
        refine x_iconst (v := 1) rfl ki_1 ?_
        refine x_iloadn (x := 0) rfl rfl ?_
        refine z_iast (N := 3) (l := 0) (u := 3) (w := 0) rfl hD J Sm rfl rfl jk_1 (by omega) jk_0 (wr_86) rfl (fun h w15 J Sm => ?_)
        rw [vwn (n := 1) (by decide) w15 (show 0 = (0 : Int32).toInt from by have := jk_0; omega)] at D
        refine x_aloadn (x := 86) rfl rfl ?_
        refine x_iconst (v := 2) rfl ki_2 ?_
        refine x_iloadn (x := v1) rfl rfl ?_
        refine z_iast (N := 3) (l := 0) (u := 3) (w := v1.toInt) rfl hD J Sm rfl rfl jk_2 (by omega) rfl (wr_86) rfl (fun h w16 J Sm => ?_)
        rw [vwn (n := 2) (by decide) w16 (show v1.toInt = v1.toInt from by omega)] at D
        refine x_iload (x := 0) rfl rfl ?_
        refine x_zret rfl rfl (by decide) ?_
        show jX m_X7_asKnown 6 0 0 16 [(0, .ref 78), (1, .int a1)] [.int 0] _ 0 0 _
        refine x_ifeq (tgt := 20) rfl rfl (ti_eq jk_0 jk_0 (br_t (by omega) ?_))
        refine x_iconst (v := 0) rfl ki_0 ?_
        refine x_istoren (lsx9 := [(2, .int 0), (0, .ref 78), (1, .int a1)]) rfl rfl rfl ?_
        exact jX.sub (jsb_c rfl (jsb_c rfl (jsb_c rfl jsb_n))) (ct_X7_asKnown_r78d_22 hD hQ  601 a1 0 h (by have := jk_0; omega) (jr_of rfl (by omega)) (jr_of jk_0 (by omega)) J Sm (by rw [jk_0]; exact D))
      ·
        rw [if_pos (by omega)] at D
        refine x_iconst (v := 1) rfl ki_1 ?_
        refine x_goto (tgt := 34) rfl rfl ?_
        refine x_istore (lsx9 := [(4, .int 1), (0, .ref 86), (1, .int a1), (2, .int 0), (3, .int v1)]) rfl rfl rfl ?_
        refine x_aloadn (x := 86) rfl rfl ?_
        refine x_iconst (v := 0) rfl ki_0 ?_
        refine x_iloadn (x := a1) rfl rfl ?_
        refine z_iast (N := 3) (l := 0) (u := 3) (w := a1.toInt) rfl hD J Sm rfl rfl jk_0 (by omega) rfl (wr_86) rfl (fun h w17 J Sm => ?_)
        rw [vwn (n := 0) (by decide) w17 (show a1.toInt = a1.toInt from by omega)] at D
        refine x_aloadn (x := 86) rfl rfl ?_
        refine x_iconst (v := 1) rfl ki_1 ?_
        refine x_iloadn (x := 0) rfl rfl ?_
        refine z_iast (N := 3) (l := 0) (u := 3) (w := 0) rfl hD J Sm rfl rfl jk_1 (by omega) jk_0 (wr_86) rfl (fun h w18 J Sm => ?_)
        rw [vwn (n := 1) (by decide) w18 (show 0 = (0 : Int32).toInt from by have := jk_0; omega)] at D
        refine x_aloadn (x := 86) rfl rfl ?_
        refine x_iconst (v := 2) rfl ki_2 ?_
        refine x_iloadn (x := v1) rfl rfl ?_
        refine z_iast (N := 3) (l := 0) (u := 3) (w := v1.toInt) rfl hD J Sm rfl rfl jk_2 (by omega) rfl (wr_86) rfl (fun h w19 J Sm => ?_)
        rw [vwn (n := 2) (by decide) w19 (show v1.toInt = v1.toInt from by omega)] at D
        refine x_iload (x := 1) rfl rfl ?_
        refine x_zret rfl rfl (by decide) ?_
        show jX m_X7_asKnown 6 0 0 16 [(0, .ref 78), (1, .int a1)] [.int 1] _ 0 0 _
        refine x_ifeq (tgt := 20) rfl rfl (ti_eq jk_1 jk_0 (br_f (by omega) ?_))
        refine x_vret rfl rfl ?_
        exact hQ _ J Sm D.symm
def fp_X11_about_r31d : jFp := [(78, 13, 14), (82, 0, 600), (83, 0, 600), (84, 0, 200), (85, 0, 4), (86, 0, 3), (98, 10, 11), (98, 11, 12), (99, 0, 30), (100, 0, 30), (101, 0, 3), (102, 0, 40), (103, 0, 40), (104, 0, 40), (105, 0, 3)]
set_option maxRecDepth 100000 in
set_option maxHeartbeats 4000000 in
theorem ct_X11_about_r31d_19 {Dy : jH → Prop} {h0 : jH} {Q : Option Value → jH → Prop} {dr : (Int × jW)} (hD : jDk Dy) (hQ : ∀ (v : Int64) hx9, jJ jSgX Dy hx9 → jSm fp_X11_about_r31d h0 hx9 → dr.1 = v.toInt → dr.2 = vw hx9 → Q (some (.long v)) hx9) : ∀ (h : jH), jJ jSgX Dy h → jSm fp_X11_about_r31d h0 h → d_X11_about_r31d_19  (vw h) = dr → jX m_X11_about 8 0 0 19 [] [] h 0 0 Q := by
  intro  h    J Sm D
  unfold d_X11_about_r31d_19 at D
  refine x_ldc2 (v := (-1)) rfl z_11_372 ?_
  refine x_lret rfl rfl ?_
  exact hQ _ _ J Sm ((congrArg Prod.fst D).symm.trans (show (-1) = ((-1) : Int64).toInt from by have := jkl_m1; omega)) (congrArg Prod.snd D).symm
set_option maxRecDepth 100000 in
set_option maxHeartbeats 4000000 in
theorem sf_X11_about_r31d {Dy : jH → Prop} {h : jH} {Q : Option Value → jH → Prop} {dr : (Int × jW)} {a1 : Int32} {a2 : Int32} {a3 : Int32} {a4 : Int32} (hD : jDk Dy) (J : jJ jSgX Dy h) (D : d_X11_about_r31d a1.toInt a2.toInt a3.toInt a4.toInt (vw h) = dr) (hQ : ∀ (v : Int64) hx9, jJ jSgX Dy hx9 → jSm fp_X11_about_r31d h hx9 → dr.1 = v.toInt → dr.2 = vw hx9 → Q (some (.long v)) hx9) : jC m_X11_about 8 0 0 [.ref 31, .int a1, .int a2, .int a3, .int a4] h Q := by
  refine jC.of rfl k_X11_about rfl ?_
  have Sm := jSm_rf fp_X11_about_r31d h
  have ea1 := jfull a1
  have ea2 := jfull a2
  have ea3 := jfull a3
  have ea4 := jfull a4
  show jX m_X11_about 8 0 0 0 [(0, .ref 31), (1, .int a1), (2, .int a2), (3, .int a3), (4, .int a4)] [] _ 0 0 _
  unfold d_X11_about_r31d at D
  refine x_iloadn (x := a2) rfl rfl ?_
  refine x_inst (N := m_X11_isDay) (As := [.int a2]) (st := []) (dx9 := 1) (mc := 0) (ms := 0) (host := "") rfl t_X11_isDay ⟨Or.inl q_11_115, s_X11_isDay⟩ rfl (by decide) rfl rfl ⟨by decide, by decide⟩ (zc_X11_isDay rfl (fun v1 ev1 => ?_))
  show jX m_X11_about 8 0 0 4 [(0, .ref 31), (1, .int a1), (2, .int a2), (3, .int a3), (4, .int a4)] [.int v1] _ 0 0 _
  refine x_ifeq (tgt := 19) rfl rfl (ti_eq rfl jk_0 ⟨fun c2 => ?_, fun c2 => ?_⟩)
  ·
    rw [if_neg (by omega)] at D
    exact jX.sub jsb_n (ct_X11_about_r31d_19 hD hQ  h J Sm D)
  ·
    rw [if_pos (by omega)] at D
    refine x_iload (x := a4) rfl rfl ?_
    refine x_iflt (tgt := 19) rfl rfl (ti_lt rfl jk_0 ⟨fun c3 => ?_, fun c3 => ?_⟩)
    ·
      rw [if_pos (by omega)] at D
      exact jX.sub jsb_n (ct_X11_about_r31d_19 hD hQ  h J Sm D)
    ·
      rw [if_neg (by omega)] at D
      refine x_iload (x := a4) rfl rfl ?_
      refine x_bipush (v := 9) rfl kb_9 ?_
      refine x_icle (tgt := 23) rfl rfl (ti_le rfl jk_9 ⟨fun c4 => ?_, fun c4 => ?_⟩)
      ·
        rw [if_pos (by omega)] at D
        refine x_aloadn (x := 31) rfl rfl ?_
        refine x_iloadn (x := a1) rfl rfl ?_
        refine x_iloadn (x := a3) rfl rfl ?_
        refine x_inv (N := m_X11_soulOn) (As := [.int a1, .int a3]) (b := 31) (st := []) (dx9 := 7) (mc := 0) (ms := 0) (host := "") 11 rfl t_X11_soulOn ⟨Or.inl q_11_234, i_X11_soulOn.1, i_X11_soulOn.2⟩ ⟨by decide, rfl⟩ (congrArg Prod.fst (J.1.1 31 (11, 13) rfl)) rfl (by decide) rfl rfl ⟨by decide, by decide⟩ (jC.of rfl k_X11_soulOn rfl ?_)
        show jX m_X11_soulOn 7 0 0 0 [(0, .ref 31), (1, .int a1), (2, .int a3)] [] _ 0 0 _
        refine x_iloadn (x := a3) rfl rfl ?_
        refine x_inst (N := m_X11_isDay) (As := [.int a3]) (st := []) (dx9 := 1) (mc := 0) (ms := 0) (host := "") rfl t_X11_isDay ⟨Or.inl q_11_115, s_X11_isDay⟩ rfl (by decide) rfl rfl ⟨by decide, by decide⟩ (zc_X11_isDay rfl (fun v5 ev5 => ?_))
        show jX m_X11_soulOn 7 0 0 4 [(0, .ref 31), (1, .int a1), (2, .int a3)] [.int v5] _ 0 0 _
        refine x_ifeq (tgt := 18) rfl rfl (ti_eq rfl jk_0 ⟨fun c6 => ?_, fun c6 => ?_⟩)
        ·
          rw [if_neg (by omega)] at D
          refine x_iconst (v := (-1)) rfl ki_m1 ?_
          refine x_iret rfl rfl ?_
          show jX m_X11_about 8 0 0 29 [(0, .ref 31), (1, .int a1), (2, .int a2), (3, .int a3), (4, .int a4)] [.int (-1)] _ 0 0 _
          refine x_istore (lsx9 := [(5, .int (-1)), (0, .ref 31), (1, .int a1), (2, .int a2), (3, .int a3), (4, .int a4)]) rfl rfl rfl ?_
          refine x_iload (x := (-1)) rfl rfl ?_
          refine x_iconst (v := (-1)) rfl ki_m1 ?_
          refine x_icne (tgt := 41) rfl rfl (ti_ne jk_m1 jk_m1 (bn_f (by omega) ?_))
          refine x_ldc2 (v := (-1)) rfl z_11_372 ?_
          refine x_lret rfl rfl ?_
          exact hQ _ _ J Sm ((congrArg Prod.fst D).symm.trans (show (-1) = ((-1) : Int64).toInt from by have := jkl_m1; omega)) (congrArg Prod.snd D).symm
        ·
          rw [if_pos (by omega)] at D
          refine x_aloadn (x := 31) rfl rfl ?_
          refine z_getR (N := 13) (b := 78) 11 4 rfl f_11_41 rfl J rfl 3972 ⟨rfl, rfl⟩ rfl ?_
          refine x_iloadn (x := a1) rfl rfl ?_
          refine x_inv (N := m_X7_isMention) (As := [.int a1]) (b := 78) (st := []) (dx9 := 6) (mc := 0) (ms := 0) (host := "") 7 rfl t_X7_isMention ⟨Or.inl q_11_187, i_X7_isMention.1, i_X7_isMention.2⟩ ⟨by decide, rfl⟩ (congrArg Prod.fst (J.1.1 78 (7, 16) rfl)) rfl (by decide) rfl rfl ⟨by decide, by decide⟩ (jC.of rfl k_X7_isMention rfl ?_)
          show jX m_X7_isMention 6 0 0 0 [(0, .ref 78), (1, .int a1)] [] _ 0 0 _
          refine x_iloadn (x := a1) rfl rfl ?_
          refine x_iflt (tgt := 41) rfl rfl (ti_lt rfl jk_0 ⟨fun c7 => ?_, fun c7 => ?_⟩)
          ·
            rw [if_pos (by omega)] at D
            refine x_iconst (v := 0) rfl ki_0 ?_
            refine x_zret rfl rfl (by decide) ?_
            show jX m_X11_soulOn 7 0 0 15 [(0, .ref 31), (1, .int a1), (2, .int a3)] [.int 0] _ 0 0 _
            refine x_ifne (tgt := 20) rfl rfl (ti_ne jk_0 jk_0 (bn_f (by omega) ?_))
            refine x_iconst (v := (-1)) rfl ki_m1 ?_
            refine x_iret rfl rfl ?_
            show jX m_X11_about 8 0 0 29 [(0, .ref 31), (1, .int a1), (2, .int a2), (3, .int a3), (4, .int a4)] [.int (-1)] _ 0 0 _
            refine x_istore (lsx9 := [(5, .int (-1)), (0, .ref 31), (1, .int a1), (2, .int a2), (3, .int a3), (4, .int a4)]) rfl rfl rfl ?_
            refine x_iload (x := (-1)) rfl rfl ?_
            refine x_iconst (v := (-1)) rfl ki_m1 ?_
            refine x_icne (tgt := 41) rfl rfl (ti_ne jk_m1 jk_m1 (bn_f (by omega) ?_))
            refine x_ldc2 (v := (-1)) rfl z_11_372 ?_
            refine x_lret rfl rfl ?_
            exact hQ _ _ J Sm ((congrArg Prod.fst D).symm.trans (show (-1) = ((-1) : Int64).toInt from by have := jkl_m1; omega)) (congrArg Prod.snd D).symm
          ·
            rw [if_neg (by omega)] at D
            refine x_iloadn (x := a1) rfl rfl ?_
            refine x_sipush (v := 600) rfl ks_600 ?_
            refine x_icge (tgt := 41) rfl rfl (ti_ge rfl jk_600 ⟨fun c8 => ?_, fun c8 => ?_⟩)
            ·
              rw [if_pos (by omega)] at D
              refine x_iconst (v := 0) rfl ki_0 ?_
              refine x_zret rfl rfl (by decide) ?_
              show jX m_X11_soulOn 7 0 0 15 [(0, .ref 31), (1, .int a1), (2, .int a3)] [.int 0] _ 0 0 _
              refine x_ifne (tgt := 20) rfl rfl (ti_ne jk_0 jk_0 (bn_f (by omega) ?_))
              refine x_iconst (v := (-1)) rfl ki_m1 ?_
              refine x_iret rfl rfl ?_
              show jX m_X11_about 8 0 0 29 [(0, .ref 31), (1, .int a1), (2, .int a2), (3, .int a3), (4, .int a4)] [.int (-1)] _ 0 0 _
              refine x_istore (lsx9 := [(5, .int (-1)), (0, .ref 31), (1, .int a1), (2, .int a2), (3, .int a3), (4, .int a4)]) rfl rfl rfl ?_
              refine x_iload (x := (-1)) rfl rfl ?_
              refine x_iconst (v := (-1)) rfl ki_m1 ?_
              refine x_icne (tgt := 41) rfl rfl (ti_ne jk_m1 jk_m1 (bn_f (by omega) ?_))
              refine x_ldc2 (v := (-1)) rfl z_11_372 ?_
              refine x_lret rfl rfl ?_
              exact hQ _ _ J Sm ((congrArg Prod.fst D).symm.trans (show (-1) = ((-1) : Int64).toInt from by have := jkl_m1; omega)) (congrArg Prod.snd D).symm
            ·
              rw [if_neg (by omega)] at D
              refine x_iloadn (x := a1) rfl rfl ?_
              refine x_iconst (v := 3) rfl ki_3 ?_
              refine z_idiv rfl rfl jk_3 (by omega) (by omega) (fun v9 ev9 => ?_)
              refine x_aloadn (x := 78) rfl rfl ?_
              refine z_getR (N := 16) (b := 32) 7 0 rfl f_7_55 rfl J rfl 9984 ⟨rfl, rfl⟩ rfl ?_
              refine z_getR (N := 20) (b := 33) 1 0 rfl f_7_63 rfl J rfl 4096 ⟨rfl, rfl⟩ rfl ?_
              refine z_getI (N := 4) 8 3 rfl f_7_85 rfl J rfl sg_33_3_4_1_0_1 (fun v10 qv10 ev10 => ?_)
              try rw [vrf qv10] at D
              refine x_icge (tgt := 41) rfl rfl (ti_ge rfl rfl ⟨fun c11 => ?_, fun c11 => ?_⟩)
              ·
                rw [if_pos (by omega)] at D
                refine x_iconst (v := 0) rfl ki_0 ?_
                refine x_zret rfl rfl (by decide) ?_
                show jX m_X11_soulOn 7 0 0 15 [(0, .ref 31), (1, .int a1), (2, .int a3)] [.int 0] _ 0 0 _
                refine x_ifne (tgt := 20) rfl rfl (ti_ne jk_0 jk_0 (bn_f (by omega) ?_))
                refine x_iconst (v := (-1)) rfl ki_m1 ?_
                refine x_iret rfl rfl ?_
                show jX m_X11_about 8 0 0 29 [(0, .ref 31), (1, .int a1), (2, .int a2), (3, .int a3), (4, .int a4)] [.int (-1)] _ 0 0 _
                refine x_istore (lsx9 := [(5, .int (-1)), (0, .ref 31), (1, .int a1), (2, .int a2), (3, .int a3), (4, .int a4)]) rfl rfl rfl ?_
                refine x_iload (x := (-1)) rfl rfl ?_
                refine x_iconst (v := (-1)) rfl ki_m1 ?_
                refine x_icne (tgt := 41) rfl rfl (ti_ne jk_m1 jk_m1 (bn_f (by omega) ?_))
                refine x_ldc2 (v := (-1)) rfl z_11_372 ?_
                refine x_lret rfl rfl ?_
                exact hQ _ _ J Sm ((congrArg Prod.fst D).symm.trans (show (-1) = ((-1) : Int64).toInt from by have := jkl_m1; omega)) (congrArg Prod.snd D).symm
              ·
                rw [if_neg (by omega)] at D
                refine x_aloadn (x := 78) rfl rfl ?_
                refine z_getR (N := 16) (b := 79) 7 7 rfl f_7_27 rfl J rfl 9991 ⟨rfl, rfl⟩ rfl ?_
                refine x_iloadn (x := a1) rfl rfl ?_
                refine z_iald (N := 600) rfl J rfl sg_79_0_600_1_0_1 rfl (by omega) (fun v12 qv12 ev12 => ?_)
                try rw [vrd qv12 (show a1.toInt = a1.toInt from by omega)] at D
                refine x_iconst (v := (-1)) rfl ki_m1 ?_
                refine x_iceq (tgt := 41) rfl rfl (ti_eq rfl jk_m1 ⟨fun c13 => ?_, fun c13 => ?_⟩)
                ·
                  rw [if_pos (by omega)] at D
                  refine x_iconst (v := 0) rfl ki_0 ?_
                  refine x_zret rfl rfl (by decide) ?_
                  show jX m_X11_soulOn 7 0 0 15 [(0, .ref 31), (1, .int a1), (2, .int a3)] [.int 0] _ 0 0 _
                  refine x_ifne (tgt := 20) rfl rfl (ti_ne jk_0 jk_0 (bn_f (by omega) ?_))
                  refine x_iconst (v := (-1)) rfl ki_m1 ?_
                  refine x_iret rfl rfl ?_
                  show jX m_X11_about 8 0 0 29 [(0, .ref 31), (1, .int a1), (2, .int a2), (3, .int a3), (4, .int a4)] [.int (-1)] _ 0 0 _
                  refine x_istore (lsx9 := [(5, .int (-1)), (0, .ref 31), (1, .int a1), (2, .int a2), (3, .int a3), (4, .int a4)]) rfl rfl rfl ?_
                  refine x_iload (x := (-1)) rfl rfl ?_
                  refine x_iconst (v := (-1)) rfl ki_m1 ?_
                  refine x_icne (tgt := 41) rfl rfl (ti_ne jk_m1 jk_m1 (bn_f (by omega) ?_))
                  refine x_ldc2 (v := (-1)) rfl z_11_372 ?_
                  refine x_lret rfl rfl ?_
                  exact hQ _ _ J Sm ((congrArg Prod.fst D).symm.trans (show (-1) = ((-1) : Int64).toInt from by have := jkl_m1; omega)) (congrArg Prod.snd D).symm
                ·
                  rw [if_neg (by omega)] at D
                  refine x_iconst (v := 1) rfl ki_1 ?_
                  refine x_goto (tgt := 42) rfl rfl ?_
                  refine x_zret rfl rfl (by decide) ?_
                  show jX m_X11_soulOn 7 0 0 15 [(0, .ref 31), (1, .int a1), (2, .int a3)] [.int 1] _ 0 0 _
                  refine x_ifne (tgt := 20) rfl rfl (ti_ne jk_1 jk_0 (bn_t (by omega) ?_))
                  refine x_aloadn (x := 31) rfl rfl ?_
                  refine z_getR (N := 13) (b := 78) 11 4 rfl f_11_41 rfl J rfl 3972 ⟨rfl, rfl⟩ rfl ?_
                  refine x_iloadn (x := a3) rfl rfl ?_
                  refine x_inv (N := m_X7_asKnown) (As := [.int a3]) (b := 78) (st := []) (dx9 := 6) (mc := 0) (ms := 0) (host := "") 7 rfl t_X7_asKnown ⟨Or.inl q_11_240, i_X7_asKnown.1, i_X7_asKnown.2⟩ ⟨by decide, rfl⟩ (congrArg Prod.fst (J.1.1 78 (7, 16) rfl)) rfl (by decide) rfl rfl ⟨by decide, by decide⟩ (sf_X7_asKnown_r78d (jr_of rfl (by omega)) hD J rfl  (fun h J S14 X15 => ?_))
                  have Sm := jSm_tr rfl Sm S14
                  rw [X15] at D
                  show jX m_X11_soulOn 7 0 0 28 [(0, .ref 31), (1, .int a1), (2, .int a3)] [] _ 0 0 _
                  refine x_aloadn (x := 31) rfl rfl ?_
                  refine z_getR (N := 13) (b := 78) 11 4 rfl f_11_41 rfl J rfl 3972 ⟨rfl, rfl⟩ rfl ?_
                  refine z_getR (N := 16) (b := 82) 7 10 rfl f_11_537 rfl J rfl 9994 ⟨rfl, rfl⟩ rfl ?_
                  refine x_iloadn (x := a1) rfl rfl ?_
                  refine z_iald (N := 600) rfl J rfl sg_82_0_600_1_0_1 rfl (by omega) (fun v16 qv16 ev16 => ?_)
                  try rw [vrd qv16 (show a1.toInt = a1.toInt from by omega)] at D
                  refine x_iret rfl rfl ?_
                  show jX m_X11_about 8 0 0 29 [(0, .ref 31), (1, .int a1), (2, .int a2), (3, .int a3), (4, .int a4)] [.int v16] _ 0 0 _
                  refine x_istore (lsx9 := [(5, .int v16), (0, .ref 31), (1, .int a1), (2, .int a2), (3, .int a3), (4, .int a4)]) rfl rfl rfl ?_
                  refine x_iload (x := v16) rfl rfl ?_
                  refine x_iconst (v := (-1)) rfl ki_m1 ?_
                  refine x_icne (tgt := 41) rfl rfl (ti_ne rfl jk_m1 ⟨fun c17 => ?_, fun c17 => ?_⟩)
                  ·
                    rw [if_neg (by omega)] at D
                    refine x_aloadn (x := 31) rfl rfl ?_
                    refine z_getR (N := 13) (b := 98) 11 7 rfl f_11_66 rfl J rfl 3975 ⟨rfl, rfl⟩ rfl ?_
                    refine x_iloadn (x := a2) rfl rfl ?_
                    refine x_iloadn (x := a3) rfl rfl ?_
                    refine x_inv (N := m_X0_turnTo) (As := [.int a2, .int a3]) (b := 98) (st := []) (dx9 := 7) (mc := 0) (ms := 0) (host := "") 0 rfl t_X0_turnTo ⟨Or.inl q_11_345, i_X0_turnTo.1, i_X0_turnTo.2⟩ ⟨by decide, rfl⟩ (congrArg Prod.fst (J.1.1 98 (0, 16) rfl)) rfl (by decide) rfl rfl ⟨by decide, by decide⟩ (jC.of rfl k_X0_turnTo rfl ?_)
                    show jX m_X0_turnTo 7 0 0 0 [(0, .ref 98), (1, .int a2), (2, .int a3)] [] _ 0 0 _
                    refine x_aloadn (x := 98) rfl rfl ?_
                    refine x_iloadn (x := a2) rfl rfl ?_
                    refine x_iloadn (x := a3) rfl rfl ?_
                    refine x_inv (N := m_X0_readLaws) (As := [.int a2, .int a3]) (b := 98) (st := []) (dx9 := 3) (mc := 0) (ms := 0) (host := "") 0 rfl t_X0_readLaws ⟨Or.inl q_0_65, i_X0_readLaws.1, i_X0_readLaws.2⟩ ⟨by decide, rfl⟩ (congrArg Prod.fst (J.1.1 98 (0, 16) rfl)) rfl (by decide) rfl rfl ⟨by decide, by decide⟩ (sf_X0_readLaws_r98d (jr_of rfl (by omega)) (jr_of rfl (by omega)) hD J rfl  (fun h J S18 X19 => ?_))
                    have Sm := jSm_tr rfl Sm S18
                    rw [X19] at D
                    show jX m_X0_turnTo 7 0 0 6 [(0, .ref 98), (1, .int a2), (2, .int a3)] [] _ 0 0 _
                    refine x_aloadn (x := 98) rfl rfl ?_
                    refine x_iloadn (x := a2) rfl rfl ?_
                    refine x_iloadn (x := a3) rfl rfl ?_
                    refine x_inv (N := m_X0_readHouses) (As := [.int a2, .int a3]) (b := 98) (st := []) (dx9 := 3) (mc := 0) (ms := 0) (host := "") 0 rfl t_X0_readHouses ⟨Or.inl q_0_69, i_X0_readHouses.1, i_X0_readHouses.2⟩ ⟨by decide, rfl⟩ (congrArg Prod.fst (J.1.1 98 (0, 16) rfl)) rfl (by decide) rfl rfl ⟨by decide, by decide⟩ (sf_X0_readHouses_r98d (jr_of rfl (by omega)) (jr_of rfl (by omega)) hD J rfl  (fun h J S20 X21 => ?_))
                    have Sm := jSm_tr rfl Sm S20
                    rw [X21] at D
                    show jX m_X0_turnTo 7 0 0 12 [(0, .ref 98), (1, .int a2), (2, .int a3)] [] _ 0 0 _
                    refine x_vret rfl rfl ?_
                    show jX m_X11_about 8 0 0 50 [(5, .int v16), (0, .ref 31), (1, .int a1), (2, .int a2), (3, .int a3), (4, .int a4)] [] _ 0 0 _
                    refine x_aloadn (x := 31) rfl rfl ?_
                    refine z_getR (N := 13) (b := 98) 11 7 rfl f_11_66 rfl J rfl 3975 ⟨rfl, rfl⟩ rfl ?_
                    refine x_iload (x := a4) rfl rfl ?_
                    refine x_iload (x := v16) rfl rfl ?_
                    refine x_inv (N := m_X0_quantity) (As := [.int a4, .int v16]) (b := 98) (st := []) (dx9 := 3) (mc := 0) (ms := 0) (host := "") 0 rfl t_X0_quantity ⟨Or.inl q_11_374, i_X0_quantity.1, i_X0_quantity.2⟩ ⟨by decide, rfl⟩ (congrArg Prod.fst (J.1.1 98 (0, 16) rfl)) rfl (by decide) rfl rfl ⟨by decide, by decide⟩ (sf_X0_quantity_r98d (jr_of rfl (by omega)) hD J rfl  (fun v25 h J S22 X23 X24 => ?_))
                    have ev25 := jfullL v25
                    have Sm := jSm_tr rfl Sm S22
                    try rw [X23] at D
                    try rw [X24] at D
                    show jX m_X11_about 8 0 0 61 [(5, .int v16), (0, .ref 31), (1, .int a1), (2, .int a2), (3, .int a3), (4, .int a4)] [.long v25] _ 0 0 _
                    refine x_lret rfl rfl ?_
                    exact hQ _ _ J Sm ((congrArg Prod.fst D).symm.trans (X23.trans (by omega))) ((congrArg Prod.snd D).symm.trans X24)
                  ·
                    rw [if_pos (by omega)] at D
                    refine x_ldc2 (v := (-1)) rfl z_11_372 ?_
                    refine x_lret rfl rfl ?_
                    exact hQ _ _ J Sm ((congrArg Prod.fst D).symm.trans (show (-1) = ((-1) : Int64).toInt from by have := jkl_m1; omega)) (congrArg Prod.snd D).symm
      ·
        rw [if_neg (by omega)] at D
        exact jX.sub jsb_n (ct_X11_about_r31d_19 hD hQ  h J Sm D)
def fp_X11_acres_r31d : jFp := [(31, 12, 13), (32, 19, 20), (123, 0, 120)]
set_option maxRecDepth 100000 in
set_option maxHeartbeats 4000000 in
theorem ct_X11_acres_r31d_18 {Dy : jH → Prop} {h0 : jH} {Q : Option Value → jH → Prop} {dr : (Int × jW)} (hD : jDk Dy) (hQ : ∀ (v : Int32) hx9, (-2) ≤ v.toInt ∧ v.toInt ≤ 0 → jJ jSgX Dy hx9 → jSm fp_X11_acres_r31d h0 hx9 → dr.1 = v.toInt → dr.2 = vw hx9 → Q (some (.int v)) hx9) : ∀ (h : jH), jJ jSgX Dy h → jSm fp_X11_acres_r31d h0 h → d_X11_acres_r31d_18  (vw h) = dr → jX m_X11_acres 2 0 0 18 [(0, .ref 31)] [] h 0 0 Q := by
  intro  h    J Sm D
  unfold d_X11_acres_r31d_18 at D
  refine x_aloadn (x := 31) rfl rfl ?_
  refine x_iconst (v := (-1)) rfl ki_m1 ?_
  refine x_inv (N := m_X11_refuse) (As := [.int (-1)]) (b := 31) (st := []) (dx9 := 1) (mc := 0) (ms := 0) (host := "") 11 rfl t_X11_refuse ⟨Or.inl q_11_206, i_X11_refuse.1, i_X11_refuse.2⟩ ⟨by decide, rfl⟩ (congrArg Prod.fst (J.1.1 31 (11, 13) rfl)) rfl (by decide) rfl rfl ⟨by decide, by decide⟩ (jC.of rfl k_X11_refuse rfl ?_)
  show jX m_X11_refuse 1 0 0 0 [(0, .ref 31), (1, .int (-1))] [] _ 0 0 _
  refine x_aloadn (x := 31) rfl rfl ?_
  refine x_iloadn (x := (-1)) rfl rfl ?_
  refine z_putI (N := 13) (w := (-1)) 11 12 rfl f_11_94 rfl (jfin_no TX11 RX11 13 rfl rfl) hD J Sm rfl rfl jk_m1 (pw_31_12 (by omega)) rfl (fun h w1 J Sm => ?_)
  rw [vwf w1 (show (-1) = ((-1) : Int32).toInt from by have := jk_m1; omega)] at D
  refine x_iloadn (x := (-1)) rfl rfl ?_
  refine x_iret rfl rfl ?_
  show jX m_X11_acres 2 0 0 23 [(0, .ref 31)] [.int (-1)] _ 0 0 _
  refine x_iret rfl rfl ?_
  exact hQ _ _ (jr_of jk_m1 (by omega)) J Sm ((congrArg Prod.fst D).symm.trans (show (-1) = ((-1) : Int32).toInt from by have := jk_m1; omega)) (congrArg Prod.snd D).symm
set_option maxRecDepth 100000 in
set_option maxHeartbeats 4000000 in
theorem sf_X11_acres_r31d {Dy : jH → Prop} {h : jH} {Q : Option Value → jH → Prop} {dr : (Int × jW)} {a1 : Int32} {a2 : Int32} {a3 : Int32} (hD : jDk Dy) (J : jJ jSgX Dy h) (D : d_X11_acres_r31d a1.toInt a2.toInt a3.toInt (vw h) = dr) (hQ : ∀ (v : Int32) hx9, (-2) ≤ v.toInt ∧ v.toInt ≤ 0 → jJ jSgX Dy hx9 → jSm fp_X11_acres_r31d h hx9 → dr.1 = v.toInt → dr.2 = vw hx9 → Q (some (.int v)) hx9) : jC m_X11_acres 2 0 0 [.ref 31, .int a1, .int a2, .int a3] h Q := by
  refine jC.of rfl k_X11_acres rfl ?_
  have Sm := jSm_rf fp_X11_acres_r31d h
  have ea1 := jfull a1
  have ea2 := jfull a2
  have ea3 := jfull a3
  show jX m_X11_acres 2 0 0 0 [(0, .ref 31), (1, .int a1), (2, .int a2), (3, .int a3)] [] _ 0 0 _
  unfold d_X11_acres_r31d at D
  refine x_iloadn (x := a2) rfl rfl ?_
  refine x_inst (N := m_X11_isCrop) (As := [.int a2]) (st := []) (dx9 := 1) (mc := 0) (ms := 0) (host := "") rfl t_X11_isCrop ⟨Or.inl q_11_500, s_X11_isCrop⟩ rfl (by decide) rfl rfl ⟨by decide, by decide⟩ (zc_X11_isCrop rfl (fun v1 ev1 => ?_))
  show jX m_X11_acres 2 0 0 4 [(0, .ref 31), (1, .int a1), (2, .int a2), (3, .int a3)] [.int v1] _ 0 0 _
  refine x_ifeq (tgt := 18) rfl rfl (ti_eq rfl jk_0 ⟨fun c2 => ?_, fun c2 => ?_⟩)
  ·
    rw [if_neg (by omega)] at D
    exact jX.sub (jsb_c rfl jsb_n) (ct_X11_acres_r31d_18 hD hQ  h J Sm D)
  ·
    rw [if_pos (by omega)] at D
    refine x_iloadn (x := a3) rfl rfl ?_
    refine x_iconst (v := 0) rfl ki_0 ?_
    refine x_sipush (v := 1000) rfl ks_1000 ?_
    refine x_inst (N := m_X11_isWithin) (As := [.int a3, .int 0, .int 1000]) (st := []) (dx9 := 1) (mc := 0) (ms := 0) (host := "") rfl t_X11_isWithin ⟨Or.inl q_11_202, s_X11_isWithin⟩ rfl (by decide) rfl rfl ⟨by decide, by decide⟩ (zc_X11_isWithin rfl jk_0 jk_1000 (fun v3 ev3 => ?_))
    show jX m_X11_acres 2 0 0 15 [(0, .ref 31), (1, .int a1), (2, .int a2), (3, .int a3)] [.int v3] _ 0 0 _
    refine x_ifne (tgt := 24) rfl rfl (ti_ne rfl jk_0 ⟨fun c4 => ?_, fun c4 => ?_⟩)
    ·
      rw [if_pos (by omega)] at D
      refine x_aloadn (x := 31) rfl rfl ?_
      refine x_iloadn (x := a1) rfl rfl ?_
      refine x_inv (N := m_X11_isHolding) (As := [.int a1]) (b := 31) (st := []) (dx9 := 1) (mc := 0) (ms := 0) (host := "") 11 rfl t_X11_isHolding ⟨Or.inl q_11_415, i_X11_isHolding.1, i_X11_isHolding.2⟩ ⟨by decide, rfl⟩ (congrArg Prod.fst (J.1.1 31 (11, 13) rfl)) rfl (by decide) rfl rfl ⟨by decide, by decide⟩ (jC.of rfl k_X11_isHolding rfl ?_)
      show jX m_X11_isHolding 1 0 0 0 [(0, .ref 31), (1, .int a1)] [] _ 0 0 _
      refine x_iloadn (x := a1) rfl rfl ?_
      refine x_iflt (tgt := 28) rfl rfl (ti_lt rfl jk_0 ⟨fun c5 => ?_, fun c5 => ?_⟩)
      ·
        rw [if_pos (by omega)] at D
        refine x_iconst (v := 0) rfl ki_0 ?_
        refine x_zret rfl rfl (by decide) ?_
        show jX m_X11_acres 2 0 0 29 [(0, .ref 31), (1, .int a1), (2, .int a2), (3, .int a3)] [.int 0] _ 0 0 _
        refine x_ifne (tgt := 39) rfl rfl (ti_ne jk_0 jk_0 (bn_f (by omega) ?_))
        refine x_aloadn (x := 31) rfl rfl ?_
        refine x_bipush (v := (-2)) rfl kb_m2 ?_
        refine x_inv (N := m_X11_refuse) (As := [.int (-2)]) (b := 31) (st := []) (dx9 := 1) (mc := 0) (ms := 0) (host := "") 11 rfl t_X11_refuse ⟨Or.inl q_11_206, i_X11_refuse.1, i_X11_refuse.2⟩ ⟨by decide, rfl⟩ (congrArg Prod.fst (J.1.1 31 (11, 13) rfl)) rfl (by decide) rfl rfl ⟨by decide, by decide⟩ (jC.of rfl k_X11_refuse rfl ?_)
        show jX m_X11_refuse 1 0 0 0 [(0, .ref 31), (1, .int (-2))] [] _ 0 0 _
        refine x_aloadn (x := 31) rfl rfl ?_
        refine x_iloadn (x := (-2)) rfl rfl ?_
        refine z_putI (N := 13) (w := (-2)) 11 12 rfl f_11_94 rfl (jfin_no TX11 RX11 13 rfl rfl) hD J Sm rfl rfl jk_m2 (pw_31_12 (by omega)) rfl (fun h w6 J Sm => ?_)
        rw [vwf w6 (show (-2) = ((-2) : Int32).toInt from by have := jk_m2; omega)] at D
        refine x_iloadn (x := (-2)) rfl rfl ?_
        refine x_iret rfl rfl ?_
        show jX m_X11_acres 2 0 0 38 [(0, .ref 31), (1, .int a1), (2, .int a2), (3, .int a3)] [.int (-2)] _ 0 0 _
        refine x_iret rfl rfl ?_
        exact hQ _ _ (jr_of jk_m2 (by omega)) J Sm ((congrArg Prod.fst D).symm.trans (show (-2) = ((-2) : Int32).toInt from by have := jk_m2; omega)) (congrArg Prod.snd D).symm
      ·
        rw [if_neg (by omega)] at D
        refine x_iloadn (x := a1) rfl rfl ?_
        refine x_aloadn (x := 31) rfl rfl ?_
        refine z_getR (N := 13) (b := 32) 11 0 rfl f_11_10 rfl J rfl 3968 ⟨rfl, rfl⟩ rfl ?_
        refine z_getR (N := 20) (b := 49) 1 8 rfl f_11_408 rfl J rfl 4104 ⟨rfl, rfl⟩ rfl ?_
        refine z_getI (N := 4) 8 3 rfl f_11_142 rfl J rfl sg_49_3_4_1_0_1 (fun v7 qv7 ev7 => ?_)
        try rw [vrf qv7] at D
        refine x_icge (tgt := 28) rfl rfl (ti_ge rfl rfl ⟨fun c8 => ?_, fun c8 => ?_⟩)
        ·
          rw [if_pos (by omega)] at D
          refine x_iconst (v := 0) rfl ki_0 ?_
          refine x_zret rfl rfl (by decide) ?_
          show jX m_X11_acres 2 0 0 29 [(0, .ref 31), (1, .int a1), (2, .int a2), (3, .int a3)] [.int 0] _ 0 0 _
          refine x_ifne (tgt := 39) rfl rfl (ti_ne jk_0 jk_0 (bn_f (by omega) ?_))
          refine x_aloadn (x := 31) rfl rfl ?_
          refine x_bipush (v := (-2)) rfl kb_m2 ?_
          refine x_inv (N := m_X11_refuse) (As := [.int (-2)]) (b := 31) (st := []) (dx9 := 1) (mc := 0) (ms := 0) (host := "") 11 rfl t_X11_refuse ⟨Or.inl q_11_206, i_X11_refuse.1, i_X11_refuse.2⟩ ⟨by decide, rfl⟩ (congrArg Prod.fst (J.1.1 31 (11, 13) rfl)) rfl (by decide) rfl rfl ⟨by decide, by decide⟩ (jC.of rfl k_X11_refuse rfl ?_)
          show jX m_X11_refuse 1 0 0 0 [(0, .ref 31), (1, .int (-2))] [] _ 0 0 _
          refine x_aloadn (x := 31) rfl rfl ?_
          refine x_iloadn (x := (-2)) rfl rfl ?_
          refine z_putI (N := 13) (w := (-2)) 11 12 rfl f_11_94 rfl (jfin_no TX11 RX11 13 rfl rfl) hD J Sm rfl rfl jk_m2 (pw_31_12 (by omega)) rfl (fun h w9 J Sm => ?_)
          rw [vwf w9 (show (-2) = ((-2) : Int32).toInt from by have := jk_m2; omega)] at D
          refine x_iloadn (x := (-2)) rfl rfl ?_
          refine x_iret rfl rfl ?_
          show jX m_X11_acres 2 0 0 38 [(0, .ref 31), (1, .int a1), (2, .int a2), (3, .int a3)] [.int (-2)] _ 0 0 _
          refine x_iret rfl rfl ?_
          exact hQ _ _ (jr_of jk_m2 (by omega)) J Sm ((congrArg Prod.fst D).symm.trans (show (-2) = ((-2) : Int32).toInt from by have := jk_m2; omega)) (congrArg Prod.snd D).symm
        ·
          rw [if_neg (by omega)] at D
          refine x_iloadn (x := a1) rfl rfl ?_
          refine x_bipush (v := 40) rfl kb_40 ?_
          refine x_icge (tgt := 28) rfl rfl (ti_ge rfl jk_40 (br_f (by omega) ?_))
          refine x_iconst (v := 1) rfl ki_1 ?_
          refine x_goto (tgt := 29) rfl rfl ?_
          refine x_zret rfl rfl (by decide) ?_
          show jX m_X11_acres 2 0 0 29 [(0, .ref 31), (1, .int a1), (2, .int a2), (3, .int a3)] [.int 1] _ 0 0 _
          refine x_ifne (tgt := 39) rfl rfl (ti_ne jk_1 jk_0 (bn_t (by omega) ?_))
          refine x_aloadn (x := 31) rfl rfl ?_
          refine z_getR (N := 13) (b := 123) 11 10 rfl f_11_86 rfl J rfl 3978 ⟨rfl, rfl⟩ rfl ?_
          refine x_iloadn (x := a1) rfl rfl ?_
          refine x_iconst (v := 3) rfl ki_3 ?_
          refine z_imul rfl rfl jk_3 (by omega) (fun v10 ev10 => ?_)
          refine x_iloadn (x := a2) rfl rfl ?_
          refine z_iadd rfl rfl rfl (by omega) (fun v11 ev11 => ?_)
          refine x_iloadn (x := a3) rfl rfl ?_
          refine z_iast (N := 120) (l := 0) (u := 120) (w := a3.toInt) rfl hD J Sm rfl rfl rfl (by omega) rfl (wr_123 (fun q1 q2 q3 q4 => by omega)) rfl (fun h w12 J Sm => ?_)
          rw [vww w12 (show ((a1.toInt * 3) + a2.toInt) = v11.toInt from by omega) (show a3.toInt = a3.toInt from by omega)] at D
          refine x_aloadn (x := 31) rfl rfl ?_
          refine x_iconst (v := 0) rfl ki_0 ?_
          refine x_inv (N := m_X11_accept) (As := [.int 0]) (b := 31) (st := []) (dx9 := 1) (mc := 0) (ms := 0) (host := "") 11 rfl t_X11_accept ⟨Or.inl q_11_165, i_X11_accept.1, i_X11_accept.2⟩ ⟨by decide, rfl⟩ (congrArg Prod.fst (J.1.1 31 (11, 13) rfl)) rfl (by decide) rfl rfl ⟨by decide, by decide⟩ (jC.of rfl k_X11_accept rfl ?_)
          show jX m_X11_accept 1 0 0 0 [(0, .ref 31), (1, .int 0)] [] _ 0 0 _
          refine x_aloadn (x := 31) rfl rfl ?_
          refine x_iconst (v := 0) rfl ki_0 ?_
          refine z_putI (N := 13) (w := 0) 11 12 rfl f_11_94 rfl (jfin_no TX11 RX11 13 rfl rfl) hD J Sm rfl rfl jk_0 (pw_31_12 (by omega)) rfl (fun h w13 J Sm => ?_)
          rw [vwf w13 (show 0 = (0 : Int32).toInt from by have := jk_0; omega)] at D
          refine x_aloadn (x := 31) rfl rfl ?_
          refine z_getR (N := 13) (b := 32) 11 0 rfl f_11_10 rfl J rfl 3968 ⟨rfl, rfl⟩ rfl ?_
          refine x_dup rfl rfl ?_
          refine z_getI0 (N := 20) 1 19 rfl f_11_528 rfl J rfl (fun v14 qv14 => ?_)
          have ev14 := jfull v14
          try rw [vrf (jmb_w w12 (jmb_w w13 qv14 rfl) rfl)] at D
          refine x_iconst (v := 1) rfl ki_1 ?_
          refine z_iaddW rfl rfl jk_1 (fun v15 ev15 => ?_)
          have fv15 := jfull v15
          try rw [← ev15] at D
          refine z_putI (N := 20) (w := v15.toInt) 1 19 rfl f_11_528 rfl (jfin_no TX1 RX1 20 rfl rfl) hD J Sm rfl rfl rfl (pw_32_19 trivial) rfl (fun h w16 J Sm => ?_)
          rw [vwf w16 (show v15.toInt = v15.toInt from by omega)] at D
          refine x_iloadn (x := 0) rfl rfl ?_
          refine x_iret rfl rfl ?_
          show jX m_X11_acres 2 0 0 55 [(0, .ref 31), (1, .int a1), (2, .int a2), (3, .int a3)] [.int 0] _ 0 0 _
          refine x_iret rfl rfl ?_
          exact hQ _ _ (jr_of jk_0 (by omega)) J Sm ((congrArg Prod.fst D).symm.trans (show 0 = (0 : Int32).toInt from by have := jk_0; omega)) (congrArg Prod.snd D).symm
    ·
      rw [if_neg (by omega)] at D
      exact jX.sub (jsb_c rfl jsb_n) (ct_X11_acres_r31d_18 hD hQ  h J Sm D)
def fp_X8_at_r33_c1d : jFp := []
set_option maxRecDepth 100000 in
set_option maxHeartbeats 4000000 in
theorem ct_X8_at_r33_c1d_24 {Dy : jH → Prop} {h0 : jH} {Q : Option Value → jH → Prop} {dr : Int} (hD : jDk Dy) (hQ : ∀ (v : Int32) hx9, 0 ≤ v.toInt ∧ v.toInt ≤ 146399 → jJ jSgX Dy hx9 → jSm fp_X8_at_r33_c1d h0 hx9 → dr = v.toInt → vw hx9 = vw h0 → Q (some (.int v)) hx9) : ∀ (h : jH), jJ jSgX Dy h → jSm fp_X8_at_r33_c1d h0 h → d_X8_at_r33_c1d_24  (vw h) = dr → vw h = vw h0 → jX m_X8_at 1 0 0 24 [] [] h 0 0 Q := by
  intro  h    J Sm D EV
  unfold d_X8_at_r33_c1d_24 at D
  refine x_iconst (v := 0) rfl ki_0 ?_
  refine x_iret rfl rfl ?_
  exact hQ _ _ (jr_of jk_0 (by omega)) J Sm (D.symm.trans (show 0 = (0 : Int32).toInt from by have := jk_0; omega)) EV
set_option maxRecDepth 100000 in
set_option maxHeartbeats 4000000 in
theorem sf_X8_at_r33_c1d {Dy : jH → Prop} {h : jH} {Q : Option Value → jH → Prop} {dr : Int} {a1 : Int32} (hD : jDk Dy) (J : jJ jSgX Dy h) (D : d_X8_at_r33_c1d a1.toInt (vw h) = dr) (hQ : ∀ (v : Int32) hx9, 0 ≤ v.toInt ∧ v.toInt ≤ 146399 → jJ jSgX Dy hx9 → jSm fp_X8_at_r33_c1d h hx9 → dr = v.toInt → vw hx9 = vw h → Q (some (.int v)) hx9) : jC m_X8_at 1 0 0 [.ref 33, .int a1, .int 1] h Q := by
  refine jC.of rfl k_X8_at rfl ?_
  have Sm := jSm_rf fp_X8_at_r33_c1d h
  have ea1 := jfull a1
  show jX m_X8_at 1 0 0 0 [(0, .ref 33), (1, .int a1), (2, .int 1)] [] _ 0 0 _
  unfold d_X8_at_r33_c1d at D
  have EV : vw h = vw h := rfl
  refine x_iloadn (x := a1) rfl rfl ?_
  refine x_iflt (tgt := 24) rfl rfl (ti_lt rfl jk_0 ⟨fun c1 => ?_, fun c1 => ?_⟩)
  ·
    rw [if_pos (by omega)] at D
    exact jX.sub jsb_n (ct_X8_at_r33_c1d_24 hD hQ  h J Sm D EV)
  ·
    rw [if_neg (by omega)] at D
    refine x_iloadn (x := a1) rfl rfl ?_
    refine x_aloadn (x := 33) rfl rfl ?_
    refine z_getI (N := 4) 8 3 rfl f_8_7 rfl J rfl sg_33_3_4_1_0_1 (fun v2 qv2 ev2 => ?_)
    try rw [vrf qv2] at D
    refine x_icge (tgt := 24) rfl rfl (ti_ge rfl rfl ⟨fun c3 => ?_, fun c3 => ?_⟩)
    ·
      rw [if_pos (by omega)] at D
      exact jX.sub jsb_n (ct_X8_at_r33_c1d_24 hD hQ  h J Sm D EV)
    ·
      rw [if_neg (by omega)] at D
      refine x_iloadn (x := 1) rfl rfl ?_
      refine x_iflt (tgt := 24) rfl rfl (ti_lt jk_1 jk_0 (br_f (by omega) ?_))
      refine x_iloadn (x := 1) rfl rfl ?_
      refine x_aloadn (x := 33) rfl rfl ?_
      refine z_getC (N := 4) (v := 6) 8 0 rfl f_8_19 rfl J rfl sg_33_0_1_1_0_1 jk_6 ?_
      refine x_iclt (tgt := 26) rfl rfl (ti_lt jk_1 jk_6 (br_t (by omega) ?_))
      refine x_aloadn (x := 33) rfl rfl ?_
      refine z_getR (N := 4) (b := 34) 8 2 rfl f_8_25 rfl J rfl 4226 ⟨rfl, rfl⟩ rfl ?_
      refine x_iloadn (x := a1) rfl rfl ?_
      refine x_aloadn (x := 33) rfl rfl ?_
      refine z_getC (N := 4) (v := 6) 8 0 rfl f_8_19 rfl J rfl sg_33_0_1_1_0_1 jk_6 ?_
      refine z_imul rfl rfl jk_6 (by omega) (fun v4 ev4 => ?_)
      refine x_iloadn (x := 1) rfl rfl ?_
      refine z_iadd rfl rfl jk_1 (by omega) (fun v5 ev5 => ?_)
      refine z_iald (N := 1200) rfl J rfl sg_34_0_1200_6_1_2 rfl (by omega) (fun v6 qv6 ev6 => ?_)
      try rw [vrd qv6 (show ((a1.toInt * 6) + 1) = v5.toInt from by omega)] at D
      refine x_iret rfl rfl ?_
      exact hQ _ _ (jr_of rfl (by omega)) J Sm (D.symm.trans (show v6.toInt = v6.toInt from by omega)) EV
def fp_X8_at_r33_c2d : jFp := []
set_option maxRecDepth 100000 in
set_option maxHeartbeats 4000000 in
theorem ct_X8_at_r33_c2d_24 {Dy : jH → Prop} {h0 : jH} {Q : Option Value → jH → Prop} {dr : Int} (hD : jDk Dy) (hQ : ∀ (v : Int32) hx9, 0 ≤ v.toInt ∧ v.toInt ≤ 5 → jJ jSgX Dy hx9 → jSm fp_X8_at_r33_c2d h0 hx9 → dr = v.toInt → vw hx9 = vw h0 → Q (some (.int v)) hx9) : ∀ (h : jH), jJ jSgX Dy h → jSm fp_X8_at_r33_c2d h0 h → d_X8_at_r33_c2d_24  (vw h) = dr → vw h = vw h0 → jX m_X8_at 1 0 0 24 [] [] h 0 0 Q := by
  intro  h    J Sm D EV
  unfold d_X8_at_r33_c2d_24 at D
  refine x_iconst (v := 0) rfl ki_0 ?_
  refine x_iret rfl rfl ?_
  exact hQ _ _ (jr_of jk_0 (by omega)) J Sm (D.symm.trans (show 0 = (0 : Int32).toInt from by have := jk_0; omega)) EV
set_option maxRecDepth 100000 in
set_option maxHeartbeats 4000000 in
theorem sf_X8_at_r33_c2d {Dy : jH → Prop} {h : jH} {Q : Option Value → jH → Prop} {dr : Int} {a1 : Int32} (hD : jDk Dy) (J : jJ jSgX Dy h) (D : d_X8_at_r33_c2d a1.toInt (vw h) = dr) (hQ : ∀ (v : Int32) hx9, 0 ≤ v.toInt ∧ v.toInt ≤ 5 → jJ jSgX Dy hx9 → jSm fp_X8_at_r33_c2d h hx9 → dr = v.toInt → vw hx9 = vw h → Q (some (.int v)) hx9) : jC m_X8_at 1 0 0 [.ref 33, .int a1, .int 2] h Q := by
  refine jC.of rfl k_X8_at rfl ?_
  have Sm := jSm_rf fp_X8_at_r33_c2d h
  have ea1 := jfull a1
  show jX m_X8_at 1 0 0 0 [(0, .ref 33), (1, .int a1), (2, .int 2)] [] _ 0 0 _
  unfold d_X8_at_r33_c2d at D
  have EV : vw h = vw h := rfl
  refine x_iloadn (x := a1) rfl rfl ?_
  refine x_iflt (tgt := 24) rfl rfl (ti_lt rfl jk_0 ⟨fun c1 => ?_, fun c1 => ?_⟩)
  ·
    rw [if_pos (by omega)] at D
    exact jX.sub jsb_n (ct_X8_at_r33_c2d_24 hD hQ  h J Sm D EV)
  ·
    rw [if_neg (by omega)] at D
    refine x_iloadn (x := a1) rfl rfl ?_
    refine x_aloadn (x := 33) rfl rfl ?_
    refine z_getI (N := 4) 8 3 rfl f_8_7 rfl J rfl sg_33_3_4_1_0_1 (fun v2 qv2 ev2 => ?_)
    try rw [vrf qv2] at D
    refine x_icge (tgt := 24) rfl rfl (ti_ge rfl rfl ⟨fun c3 => ?_, fun c3 => ?_⟩)
    ·
      rw [if_pos (by omega)] at D
      exact jX.sub jsb_n (ct_X8_at_r33_c2d_24 hD hQ  h J Sm D EV)
    ·
      rw [if_neg (by omega)] at D
      refine x_iloadn (x := 2) rfl rfl ?_
      refine x_iflt (tgt := 24) rfl rfl (ti_lt jk_2 jk_0 (br_f (by omega) ?_))
      refine x_iloadn (x := 2) rfl rfl ?_
      refine x_aloadn (x := 33) rfl rfl ?_
      refine z_getC (N := 4) (v := 6) 8 0 rfl f_8_19 rfl J rfl sg_33_0_1_1_0_1 jk_6 ?_
      refine x_iclt (tgt := 26) rfl rfl (ti_lt jk_2 jk_6 (br_t (by omega) ?_))
      refine x_aloadn (x := 33) rfl rfl ?_
      refine z_getR (N := 4) (b := 34) 8 2 rfl f_8_25 rfl J rfl 4226 ⟨rfl, rfl⟩ rfl ?_
      refine x_iloadn (x := a1) rfl rfl ?_
      refine x_aloadn (x := 33) rfl rfl ?_
      refine z_getC (N := 4) (v := 6) 8 0 rfl f_8_19 rfl J rfl sg_33_0_1_1_0_1 jk_6 ?_
      refine z_imul rfl rfl jk_6 (by omega) (fun v4 ev4 => ?_)
      refine x_iloadn (x := 2) rfl rfl ?_
      refine z_iadd rfl rfl jk_2 (by omega) (fun v5 ev5 => ?_)
      refine z_iald (N := 1200) rfl J rfl sg_34_0_1200_6_2_3 rfl (by omega) (fun v6 qv6 ev6 => ?_)
      try rw [vrd qv6 (show ((a1.toInt * 6) + 2) = v5.toInt from by omega)] at D
      refine x_iret rfl rfl ?_
      exact hQ _ _ (jr_of rfl (by omega)) J Sm (D.symm.trans (show v6.toInt = v6.toInt from by omega)) EV
def fp_X8_at_r33_c4d : jFp := []
set_option maxRecDepth 100000 in
set_option maxHeartbeats 4000000 in
theorem ct_X8_at_r33_c4d_24 {Dy : jH → Prop} {h0 : jH} {Q : Option Value → jH → Prop} {dr : Int} (hD : jDk Dy) (hQ : ∀ (v : Int32) hx9, jJ jSgX Dy hx9 → jSm fp_X8_at_r33_c4d h0 hx9 → dr = v.toInt → vw hx9 = vw h0 → Q (some (.int v)) hx9) : ∀ (h : jH), jJ jSgX Dy h → jSm fp_X8_at_r33_c4d h0 h → d_X8_at_r33_c4d_24  (vw h) = dr → vw h = vw h0 → jX m_X8_at 1 0 0 24 [] [] h 0 0 Q := by
  intro  h    J Sm D EV
  unfold d_X8_at_r33_c4d_24 at D
  refine x_iconst (v := 0) rfl ki_0 ?_
  refine x_iret rfl rfl ?_
  exact hQ _ _ J Sm (D.symm.trans (show 0 = (0 : Int32).toInt from by have := jk_0; omega)) EV
set_option maxRecDepth 100000 in
set_option maxHeartbeats 4000000 in
theorem sf_X8_at_r33_c4d {Dy : jH → Prop} {h : jH} {Q : Option Value → jH → Prop} {dr : Int} {a1 : Int32} (hD : jDk Dy) (J : jJ jSgX Dy h) (D : d_X8_at_r33_c4d a1.toInt (vw h) = dr) (hQ : ∀ (v : Int32) hx9, jJ jSgX Dy hx9 → jSm fp_X8_at_r33_c4d h hx9 → dr = v.toInt → vw hx9 = vw h → Q (some (.int v)) hx9) : jC m_X8_at 1 0 0 [.ref 33, .int a1, .int 4] h Q := by
  refine jC.of rfl k_X8_at rfl ?_
  have Sm := jSm_rf fp_X8_at_r33_c4d h
  have ea1 := jfull a1
  show jX m_X8_at 1 0 0 0 [(0, .ref 33), (1, .int a1), (2, .int 4)] [] _ 0 0 _
  unfold d_X8_at_r33_c4d at D
  have EV : vw h = vw h := rfl
  refine x_iloadn (x := a1) rfl rfl ?_
  refine x_iflt (tgt := 24) rfl rfl (ti_lt rfl jk_0 ⟨fun c1 => ?_, fun c1 => ?_⟩)
  ·
    rw [if_pos (by omega)] at D
    exact jX.sub jsb_n (ct_X8_at_r33_c4d_24 hD hQ  h J Sm D EV)
  ·
    rw [if_neg (by omega)] at D
    refine x_iloadn (x := a1) rfl rfl ?_
    refine x_aloadn (x := 33) rfl rfl ?_
    refine z_getI (N := 4) 8 3 rfl f_8_7 rfl J rfl sg_33_3_4_1_0_1 (fun v2 qv2 ev2 => ?_)
    try rw [vrf qv2] at D
    refine x_icge (tgt := 24) rfl rfl (ti_ge rfl rfl ⟨fun c3 => ?_, fun c3 => ?_⟩)
    ·
      rw [if_pos (by omega)] at D
      exact jX.sub jsb_n (ct_X8_at_r33_c4d_24 hD hQ  h J Sm D EV)
    ·
      rw [if_neg (by omega)] at D
      refine x_iloadn (x := 4) rfl rfl ?_
      refine x_iflt (tgt := 24) rfl rfl (ti_lt jk_4 jk_0 (br_f (by omega) ?_))
      refine x_iloadn (x := 4) rfl rfl ?_
      refine x_aloadn (x := 33) rfl rfl ?_
      refine z_getC (N := 4) (v := 6) 8 0 rfl f_8_19 rfl J rfl sg_33_0_1_1_0_1 jk_6 ?_
      refine x_iclt (tgt := 26) rfl rfl (ti_lt jk_4 jk_6 (br_t (by omega) ?_))
      refine x_aloadn (x := 33) rfl rfl ?_
      refine z_getR (N := 4) (b := 34) 8 2 rfl f_8_25 rfl J rfl 4226 ⟨rfl, rfl⟩ rfl ?_
      refine x_iloadn (x := a1) rfl rfl ?_
      refine x_aloadn (x := 33) rfl rfl ?_
      refine z_getC (N := 4) (v := 6) 8 0 rfl f_8_19 rfl J rfl sg_33_0_1_1_0_1 jk_6 ?_
      refine z_imul rfl rfl jk_6 (by omega) (fun v4 ev4 => ?_)
      refine x_iloadn (x := 4) rfl rfl ?_
      refine z_iadd rfl rfl jk_4 (by omega) (fun v5 ev5 => ?_)
      refine z_iald0 (N := 1200) rfl J rfl rfl (by omega) (fun v6 qv6 => ?_)
      have ev6 := jfull v6
      try rw [vrd qv6 (show ((a1.toInt * 6) + 4) = v5.toInt from by omega)] at D
      refine x_iret rfl rfl ?_
      exact hQ _ _ J Sm (D.symm.trans (show v6.toInt = v6.toInt from by omega)) EV
def fp_X7_learn_r78d : jFp := [(79, 0, 600), (80, 0, 600), (81, 0, 600)]
set_option maxRecDepth 100000 in
set_option maxHeartbeats 4000000 in
theorem ct_X7_learn_r78d_31 {Dy : jH → Prop} {h0 : jH} {Q : Option Value → jH → Prop} {dr : jW} (hD : jDk Dy) (hQ : ∀ hx9, jJ jSgX Dy hx9 → jSm fp_X7_learn_r78d h0 hx9 → dr = vw hx9 → Q none hx9) : ∀ (h : jH), jJ jSgX Dy h → jSm fp_X7_learn_r78d h0 h → d_X7_learn_r78d_31  (vw h) = dr → jX m_X7_learn 2 0 0 31 [] [] h 0 0 Q := by
  intro  h    J Sm D
  unfold d_X7_learn_r78d_31 at D
  refine x_vret rfl rfl ?_
  exact hQ _ J Sm D.symm
set_option maxRecDepth 100000 in
set_option maxHeartbeats 4000000 in
theorem ct_X7_learn_r78d_100072 {Dy : jH → Prop} {h0 : jH} {Q : Option Value → jH → Prop} {dr : jW} {K34 : Int → Int → Int → jW → jW} {R34 : Int} (hD : jDk Dy) (hQ : ∀ hx9, jJ jSgX Dy hx9 → jSm fp_X7_learn_r78d h0 hx9 → dr = vw hx9 → Q none hx9) (k34 : ∀ (l1 : Int32) (l2 : Int32) (l3 : Int32) (h : jH), 3 - l3.toInt < R34 → 0 ≤ l1.toInt ∧ l1.toInt ≤ 199 → 0 ≤ l2.toInt ∧ l2.toInt ≤ 5 → 0 ≤ l3.toInt ∧ l3.toInt ≤ 3 → jJ jSgX Dy h → jSm fp_X7_learn_r78d h0 h → K34 l1.toInt l2.toInt l3.toInt (vw h) = dr → jX m_X7_learn 2 0 0 34 [(0, .ref 78), (1, .int l1), (2, .int l2), (3, .int l3)] [] h 0 0 Q) : ∀ (l1 : Int32) (l2 : Int32) (l3 : Int32) (l4 : Int32) (s1 : Int32) (h : jH), 0 ≤ l1.toInt ∧ l1.toInt ≤ 199 → 0 ≤ l2.toInt ∧ l2.toInt ≤ 5 → 1 ≤ l3.toInt ∧ l3.toInt ≤ 2 → 0 ≤ l4.toInt ∧ l4.toInt ≤ 599 → 0 ≤ s1.toInt ∧ s1.toInt ≤ 599 → 3 - l3.toInt ≤ R34 → jJ jSgX Dy h → jSm fp_X7_learn_r78d h0 h → d_X7_learn_r78d_100072 K34  l1.toInt l2.toInt l3.toInt l4.toInt s1.toInt (vw h) = dr → jX m_X7_learn 2 0 0 72 [(0, .ref 78), (1, .int l1), (2, .int l2), (3, .int l3), (4, .int l4)] [.int (-1), .int s1, .ref 79] h 0 0 Q := by
  intro l1 l2 l3 l4 s1 h y0 y1 y2 y3 y4  m34 J Sm D
  unfold d_X7_learn_r78d_100072 at D
  refine z_iast (N := 600) (l := 0) (u := 600) (w := (-1)) rfl hD J Sm rfl rfl rfl (by omega) jk_m1 (wr_79 (fun q1 q2 q3 q4 => by omega)) rfl (fun h w1 J Sm => ?_)
  rw [vww w1 (show s1.toInt = s1.toInt from by omega) (show (-1) = ((-1) : Int32).toInt from by have := jk_m1; omega)] at D
  refine x_aloadn (x := 78) rfl rfl ?_
  refine z_getR (N := 16) (b := 80) 7 8 rfl f_7_31 rfl J rfl 9992 ⟨rfl, rfl⟩ rfl ?_
  refine x_iload (x := l4) rfl rfl ?_
  refine x_aloadn (x := 78) rfl rfl ?_
  refine z_getR (N := 16) (b := 32) 7 0 rfl f_7_55 rfl J rfl 9984 ⟨rfl, rfl⟩ rfl ?_
  refine z_getR (N := 20) (b := 33) 1 0 rfl f_7_63 rfl J rfl 4096 ⟨rfl, rfl⟩ rfl ?_
  refine x_iloadn (x := l1) rfl rfl ?_
  refine x_iconst (v := 1) rfl ki_1 ?_
  refine x_inv (N := m_X8_at) (As := [.int l1, .int 1]) (b := 33) (st := [.int l4, .ref 80]) (dx9 := 1) (mc := 0) (ms := 0) (host := "") 8 rfl t_X8_at ⟨Or.inl q_7_69, i_X8_at.1, i_X8_at.2⟩ ⟨by decide, rfl⟩ (congrArg Prod.fst (J.1.1 33 (8, 4) rfl)) rfl (by decide) rfl rfl ⟨by decide, by decide⟩ (sf_X8_at_r33_c1d  hD J rfl  (fun v5 h ev5 J S2 X3 X4 => ?_))
  have Sm := jSm_tr rfl Sm S2
  try rw [X3] at D
  try rw [← X4] at D
  show jX m_X7_learn 2 0 0 91 [(0, .ref 78), (1, .int l1), (2, .int l2), (3, .int l3), (4, .int l4)] [.int v5, .int l4, .ref 80] _ 0 0 _
  refine z_iast (N := 600) (l := 0) (u := 600) (w := v5.toInt) rfl hD J Sm rfl rfl rfl (by omega) rfl (wr_80 (fun q1 q2 q3 q4 => by omega)) rfl (fun h w6 J Sm => ?_)
  rw [vww w6 (show l4.toInt = l4.toInt from by omega) (show v5.toInt = v5.toInt from by omega)] at D
  refine x_aloadn (x := 78) rfl rfl ?_
  refine z_getR (N := 16) (b := 81) 7 9 rfl f_7_34 rfl J rfl 9993 ⟨rfl, rfl⟩ rfl ?_
  refine x_iload (x := l4) rfl rfl ?_
  refine x_aloadn (x := 78) rfl rfl ?_
  refine z_getR (N := 16) (b := 32) 7 0 rfl f_7_55 rfl J rfl 9984 ⟨rfl, rfl⟩ rfl ?_
  refine z_getR (N := 20) (b := 33) 1 0 rfl f_7_63 rfl J rfl 4096 ⟨rfl, rfl⟩ rfl ?_
  refine x_iloadn (x := l1) rfl rfl ?_
  refine x_iconst (v := 4) rfl ki_4 ?_
  refine x_inv (N := m_X8_at) (As := [.int l1, .int 4]) (b := 33) (st := [.int l4, .ref 81]) (dx9 := 1) (mc := 0) (ms := 0) (host := "") 8 rfl t_X8_at ⟨Or.inl q_7_69, i_X8_at.1, i_X8_at.2⟩ ⟨by decide, rfl⟩ (congrArg Prod.fst (J.1.1 33 (8, 4) rfl)) rfl (by decide) rfl rfl ⟨by decide, by decide⟩ (sf_X8_at_r33_c4d  hD J rfl  (fun v10 h J S7 X8 X9 => ?_))
  have ev10 := jfull v10
  have Sm := jSm_tr rfl Sm S7
  try rw [X8] at D
  try rw [← X9] at D
  show jX m_X7_learn 2 0 0 110 [(0, .ref 78), (1, .int l1), (2, .int l2), (3, .int l3), (4, .int l4)] [.int v10, .int l4, .ref 81] _ 0 0 _
  refine z_iast (N := 600) (l := 0) (u := 600) (w := v10.toInt) rfl hD J Sm rfl rfl rfl (by omega) rfl (wr_81) rfl (fun h w11 J Sm => ?_)
  rw [vww w11 (show l4.toInt = l4.toInt from by omega) (show v10.toInt = v10.toInt from by omega)] at D
  refine z_iinc (x := l3) (lsx9 := fun v12 => [(3, .int v12), (0, .ref 78), (1, .int l1), (2, .int l2), (4, .int l4)]) rfl rfl rfl jko_1 (by omega) rfl (fun _ => rfl) (fun v12 ev12 => ?_)
  refine x_goto (tgt := 34) rfl rfl ?_
  try rw [show (l3.toInt + 1) = v12.toInt from by omega] at D
  exact jX.sub (jsb_c rfl (jsb_c rfl (jsb_c rfl (jsb_c rfl jsb_n)))) (k34 l1 l2 v12 h (by omega) (jr_of rfl (by omega)) (jr_of rfl (by omega)) (jr_of rfl (by omega)) J Sm D)
set_option maxRecDepth 100000 in
set_option maxHeartbeats 4000000 in
theorem ct_X7_learn_r78d_72 {Dy : jH → Prop} {h0 : jH} {Q : Option Value → jH → Prop} {dr : jW} {K34 : Int → Int → Int → jW → jW} {R34 : Int} (hD : jDk Dy) (hQ : ∀ hx9, jJ jSgX Dy hx9 → jSm fp_X7_learn_r78d h0 hx9 → dr = vw hx9 → Q none hx9) (k34 : ∀ (l1 : Int32) (l2 : Int32) (l3 : Int32) (h : jH), 3 - l3.toInt < R34 → 0 ≤ l1.toInt ∧ l1.toInt ≤ 199 → 0 ≤ l2.toInt ∧ l2.toInt ≤ 5 → 0 ≤ l3.toInt ∧ l3.toInt ≤ 3 → jJ jSgX Dy h → jSm fp_X7_learn_r78d h0 h → K34 l1.toInt l2.toInt l3.toInt (vw h) = dr → jX m_X7_learn 2 0 0 34 [(0, .ref 78), (1, .int l1), (2, .int l2), (3, .int l3)] [] h 0 0 Q) : ∀ (l1 : Int32) (l2 : Int32) (l3 : Int32) (l4 : Int32) (s0 : Int32) (s1 : Int32) (h : jH), 0 ≤ l1.toInt ∧ l1.toInt ≤ 199 → 0 ≤ l2.toInt ∧ l2.toInt ≤ 5 → 0 ≤ l3.toInt ∧ l3.toInt ≤ 2 → 0 ≤ l4.toInt ∧ l4.toInt ≤ 599 → 0 ≤ s0.toInt ∧ s0.toInt ≤ 10 → 0 ≤ s1.toInt ∧ s1.toInt ≤ 599 → 3 - l3.toInt ≤ R34 → jJ jSgX Dy h → jSm fp_X7_learn_r78d h0 h → d_X7_learn_r78d_72 K34  l1.toInt l2.toInt l3.toInt l4.toInt s0.toInt s1.toInt (vw h) = dr → jX m_X7_learn 2 0 0 72 [(0, .ref 78), (1, .int l1), (2, .int l2), (3, .int l3), (4, .int l4)] [.int s0, .int s1, .ref 79] h 0 0 Q := by
  intro l1 l2 l3 l4 s0 s1 h y0 y1 y2 y3 y4 y5  m34 J Sm D
  unfold d_X7_learn_r78d_72 at D
  refine z_iast (N := 600) (l := 0) (u := 600) (w := s0.toInt) rfl hD J Sm rfl rfl rfl (by omega) rfl (wr_79 (fun q1 q2 q3 q4 => by omega)) rfl (fun h w1 J Sm => ?_)
  rw [vww w1 (show s1.toInt = s1.toInt from by omega) (show s0.toInt = s0.toInt from by omega)] at D
  refine x_aloadn (x := 78) rfl rfl ?_
  refine z_getR (N := 16) (b := 80) 7 8 rfl f_7_31 rfl J rfl 9992 ⟨rfl, rfl⟩ rfl ?_
  refine x_iload (x := l4) rfl rfl ?_
  refine x_aloadn (x := 78) rfl rfl ?_
  refine z_getR (N := 16) (b := 32) 7 0 rfl f_7_55 rfl J rfl 9984 ⟨rfl, rfl⟩ rfl ?_
  refine z_getR (N := 20) (b := 33) 1 0 rfl f_7_63 rfl J rfl 4096 ⟨rfl, rfl⟩ rfl ?_
  refine x_iloadn (x := l1) rfl rfl ?_
  refine x_iconst (v := 1) rfl ki_1 ?_
  refine x_inv (N := m_X8_at) (As := [.int l1, .int 1]) (b := 33) (st := [.int l4, .ref 80]) (dx9 := 1) (mc := 0) (ms := 0) (host := "") 8 rfl t_X8_at ⟨Or.inl q_7_69, i_X8_at.1, i_X8_at.2⟩ ⟨by decide, rfl⟩ (congrArg Prod.fst (J.1.1 33 (8, 4) rfl)) rfl (by decide) rfl rfl ⟨by decide, by decide⟩ (sf_X8_at_r33_c1d  hD J rfl  (fun v5 h ev5 J S2 X3 X4 => ?_))
  have Sm := jSm_tr rfl Sm S2
  try rw [X3] at D
  try rw [← X4] at D
  show jX m_X7_learn 2 0 0 91 [(0, .ref 78), (1, .int l1), (2, .int l2), (3, .int l3), (4, .int l4)] [.int v5, .int l4, .ref 80] _ 0 0 _
  refine z_iast (N := 600) (l := 0) (u := 600) (w := v5.toInt) rfl hD J Sm rfl rfl rfl (by omega) rfl (wr_80 (fun q1 q2 q3 q4 => by omega)) rfl (fun h w6 J Sm => ?_)
  rw [vww w6 (show l4.toInt = l4.toInt from by omega) (show v5.toInt = v5.toInt from by omega)] at D
  refine x_aloadn (x := 78) rfl rfl ?_
  refine z_getR (N := 16) (b := 81) 7 9 rfl f_7_34 rfl J rfl 9993 ⟨rfl, rfl⟩ rfl ?_
  refine x_iload (x := l4) rfl rfl ?_
  refine x_aloadn (x := 78) rfl rfl ?_
  refine z_getR (N := 16) (b := 32) 7 0 rfl f_7_55 rfl J rfl 9984 ⟨rfl, rfl⟩ rfl ?_
  refine z_getR (N := 20) (b := 33) 1 0 rfl f_7_63 rfl J rfl 4096 ⟨rfl, rfl⟩ rfl ?_
  refine x_iloadn (x := l1) rfl rfl ?_
  refine x_iconst (v := 4) rfl ki_4 ?_
  refine x_inv (N := m_X8_at) (As := [.int l1, .int 4]) (b := 33) (st := [.int l4, .ref 81]) (dx9 := 1) (mc := 0) (ms := 0) (host := "") 8 rfl t_X8_at ⟨Or.inl q_7_69, i_X8_at.1, i_X8_at.2⟩ ⟨by decide, rfl⟩ (congrArg Prod.fst (J.1.1 33 (8, 4) rfl)) rfl (by decide) rfl rfl ⟨by decide, by decide⟩ (sf_X8_at_r33_c4d  hD J rfl  (fun v10 h J S7 X8 X9 => ?_))
  have ev10 := jfull v10
  have Sm := jSm_tr rfl Sm S7
  try rw [X8] at D
  try rw [← X9] at D
  show jX m_X7_learn 2 0 0 110 [(0, .ref 78), (1, .int l1), (2, .int l2), (3, .int l3), (4, .int l4)] [.int v10, .int l4, .ref 81] _ 0 0 _
  refine z_iast (N := 600) (l := 0) (u := 600) (w := v10.toInt) rfl hD J Sm rfl rfl rfl (by omega) rfl (wr_81) rfl (fun h w11 J Sm => ?_)
  rw [vww w11 (show l4.toInt = l4.toInt from by omega) (show v10.toInt = v10.toInt from by omega)] at D
  refine z_iinc (x := l3) (lsx9 := fun v12 => [(3, .int v12), (0, .ref 78), (1, .int l1), (2, .int l2), (4, .int l4)]) rfl rfl rfl jko_1 (by omega) rfl (fun _ => rfl) (fun v12 ev12 => ?_)
  refine x_goto (tgt := 34) rfl rfl ?_
  try rw [show (l3.toInt + 1) = v12.toInt from by omega] at D
  exact jX.sub (jsb_c rfl (jsb_c rfl (jsb_c rfl (jsb_c rfl jsb_n)))) (k34 l1 l2 v12 h (by omega) (jr_of rfl (by omega)) (jr_of rfl (by omega)) (jr_of rfl (by omega)) J Sm D)
set_option maxRecDepth 100000 in
set_option maxHeartbeats 4000000 in
theorem ct_X7_learn_r78d_34 {Dy : jH → Prop} {h0 : jH} {Q : Option Value → jH → Prop} {dr : jW} (hD : jDk Dy) (hQ : ∀ hx9, jJ jSgX Dy hx9 → jSm fp_X7_learn_r78d h0 hx9 → dr = vw hx9 → Q none hx9) : ∀ r : Nat, ∀ (l1 : Int32) (l2 : Int32) (l3 : Int32) (h : jH), 3 - l3.toInt < (r : Int) → 0 ≤ l1.toInt ∧ l1.toInt ≤ 199 → 0 ≤ l2.toInt ∧ l2.toInt ≤ 5 → 0 ≤ l3.toInt ∧ l3.toInt ≤ 3 → jJ jSgX Dy h → jSm fp_X7_learn_r78d h0 h → d_X7_learn_r78d_34 r l1.toInt l2.toInt l3.toInt (vw h) = dr → jX m_X7_learn 2 0 0 34 [(0, .ref 78), (1, .int l1), (2, .int l2), (3, .int l3)] [] h 0 0 Q := by
  intro r
  induction r with
  | zero =>
    intro l1 l2 l3 h hm y0 y1 y2   J Sm D
    exfalso
    omega
  | succ r ih =>
    intro l1 l2 l3 h hm y0 y1 y2   J Sm D
    rw [d_X7_learn_r78d_34.eq_2] at D
    refine x_iloadn (x := l3) rfl rfl ?_
    refine x_iconst (v := 3) rfl ki_3 ?_
    refine x_icge (tgt := 117) rfl rfl (ti_ge rfl jk_3 ⟨fun c1 => ?_, fun c1 => ?_⟩)
    ·
      rw [if_pos (by omega)] at D
      refine x_vret rfl rfl ?_
      exact hQ _ J Sm D.symm
    ·
      rw [if_neg (by omega)] at D
      refine x_iloadn (x := l1) rfl rfl ?_
      refine x_iconst (v := 3) rfl ki_3 ?_
      refine z_imul rfl rfl jk_3 (by omega) (fun v2 ev2 => ?_)
      refine x_iloadn (x := l3) rfl rfl ?_
      refine z_iadd rfl rfl rfl (by omega) (fun v3 ev3 => ?_)
      refine x_istore (lsx9 := [(4, .int v3), (0, .ref 78), (1, .int l1), (2, .int l2), (3, .int l3)]) rfl rfl rfl ?_
      refine x_aloadn (x := 78) rfl rfl ?_
      refine z_getR (N := 16) (b := 79) 7 7 rfl f_7_27 rfl J rfl 9991 ⟨rfl, rfl⟩ rfl ?_
      refine x_iload (x := v3) rfl rfl ?_
      refine x_iloadn (x := l3) rfl rfl ?_
      refine x_getsN jst_1 rfl (by decide +kernel) u_7_79 ?_
      show jX m_X7_learn 2 0 0 56 [(4, .int v3), (0, .ref 78), (1, .int l1), (2, .int l2), (3, .int l3)] [.ref 1, .int l3, .int v3, .ref 79] _ 0 0 _
      refine x_iloadn (x := l2) rfl rfl ?_
      refine z_iald (N := 6) rfl J rfl sg_1_0_6_1_0_1 rfl (by omega) (fun v4 qv4 ev4 => ?_)
      try rw [vrd qv4 (show l2.toInt = l2.toInt from by omega)] at D
      refine x_icge (tgt := 71) rfl rfl (ti_ge rfl rfl ⟨fun c5 => ?_, fun c5 => ?_⟩)
      ·
        rw [if_pos (by omega)] at D
        refine x_iconst (v := (-1)) rfl ki_m1 ?_
        try rw [show ((l1.toInt * 3) + l3.toInt) = v3.toInt from by omega] at D
        exact jX.sub (jsb_c rfl (jsb_c rfl (jsb_c rfl (jsb_c rfl (jsb_c rfl jsb_n))))) (ct_X7_learn_r78d_100072 hD hQ ih l1 l2 l3 v3 v3 h (jr_of rfl (by omega)) (jr_of rfl (by omega)) (jr_of rfl (by omega)) (jr_of rfl (by omega)) (jr_of rfl (by omega)) (by omega) J Sm D)
      ·
        rw [if_neg (by omega)] at D
        refine x_getsN jst_2 rfl (by decide +kernel) u_7_82 ?_
        show jX m_X7_learn 2 0 0 64 [(4, .int v3), (0, .ref 78), (1, .int l1), (2, .int l2), (3, .int l3)] [.ref 2, .int v3, .ref 79] _ 0 0 _
        refine x_iloadn (x := l2) rfl rfl ?_
        refine z_iald (N := 6) rfl J rfl sg_2_0_6_1_0_1 rfl (by omega) (fun v6 qv6 ev6 => ?_)
        try rw [vrd qv6 (show l2.toInt = l2.toInt from by omega)] at D
        refine x_iloadn (x := l3) rfl rfl ?_
        refine z_iadd rfl rfl rfl (by omega) (fun v7 ev7 => ?_)
        refine x_goto (tgt := 72) rfl rfl ?_
        try rw [show ((l1.toInt * 3) + l3.toInt) = v3.toInt from by omega] at D
        try rw [show (v6.toInt + l3.toInt) = v7.toInt from by omega] at D
        exact jX.sub (jsb_c rfl (jsb_c rfl (jsb_c rfl (jsb_c rfl (jsb_c rfl jsb_n))))) (ct_X7_learn_r78d_72 hD hQ ih l1 l2 l3 v3 v7 v3 h (jr_of rfl (by omega)) (jr_of rfl (by omega)) (jr_of rfl (by omega)) (jr_of rfl (by omega)) (jr_of rfl (by omega)) (jr_of rfl (by omega)) (by omega) J Sm D)
set_option maxRecDepth 100000 in
set_option maxHeartbeats 4000000 in
theorem sf_X7_learn_r78d {Dy : jH → Prop} {h : jH} {Q : Option Value → jH → Prop} {dr : jW} {a1 : Int32} (y1 : 0 ≤ a1.toInt ∧ a1.toInt ≤ 200) (hD : jDk Dy) (J : jJ jSgX Dy h) (D : d_X7_learn_r78d a1.toInt (vw h) = dr) (hQ : ∀ hx9, jJ jSgX Dy hx9 → jSm fp_X7_learn_r78d h hx9 → dr = vw hx9 → Q none hx9) : jC m_X7_learn 2 0 0 [.ref 78, .int a1] h Q := by
  refine jC.of rfl k_X7_learn rfl ?_
  have Sm := jSm_rf fp_X7_learn_r78d h
  show jX m_X7_learn 2 0 0 0 [(0, .ref 78), (1, .int a1)] [] _ 0 0 _
  unfold d_X7_learn_r78d at D
  refine x_aloadn (x := 78) rfl rfl ?_
  refine z_getR (N := 16) (b := 32) 7 0 rfl f_7_55 rfl J rfl 9984 ⟨rfl, rfl⟩ rfl ?_
  refine z_getR (N := 20) (b := 33) 1 0 rfl f_7_63 rfl J rfl 4096 ⟨rfl, rfl⟩ rfl ?_
  refine x_iloadn (x := a1) rfl rfl ?_
  refine x_iconst (v := 2) rfl ki_2 ?_
  refine x_inv (N := m_X8_at) (As := [.int a1, .int 2]) (b := 33) (st := []) (dx9 := 1) (mc := 0) (ms := 0) (host := "") 8 rfl t_X8_at ⟨Or.inl q_7_69, i_X8_at.1, i_X8_at.2⟩ ⟨by decide, rfl⟩ (congrArg Prod.fst (J.1.1 33 (8, 4) rfl)) rfl (by decide) rfl rfl ⟨by decide, by decide⟩ (sf_X8_at_r33_c2d  hD J rfl  (fun v4 h ev4 J S1 X2 X3 => ?_))
  have Sm := jSm_tr rfl Sm S1
  try rw [X2] at D
  try rw [← X3] at D
  show jX m_X7_learn 2 0 0 12 [(0, .ref 78), (1, .int a1)] [.int v4] _ 0 0 _
  refine x_istoren (lsx9 := [(2, .int v4), (0, .ref 78), (1, .int a1)]) rfl rfl rfl ?_
  refine x_iloadn (x := a1) rfl rfl ?_
  refine x_iflt (tgt := 31) rfl rfl (ti_lt rfl jk_0 (br_f (by omega) ?_))
  refine x_iloadn (x := a1) rfl rfl ?_
  refine x_sipush (v := 200) rfl ks_200 ?_
  refine x_icge (tgt := 31) rfl rfl (ti_ge rfl jk_200 ⟨fun c5 => ?_, fun c5 => ?_⟩)
  ·
    rw [if_pos (by omega)] at D
    exact jX.sub jsb_n (ct_X7_learn_r78d_31 hD hQ  h J Sm D)
  ·
    rw [if_neg (by omega)] at D
    refine x_iloadn (x := v4) rfl rfl ?_
    refine x_inst (N := m_X11_isBook) (As := [.int v4]) (st := []) (dx9 := 1) (mc := 0) (ms := 0) (host := "ParishChest") rfl t_X11_isBook ⟨Or.inr q_7_75, s_X11_isBook⟩ rfl (by decide) rfl rfl ⟨by decide, by decide⟩ (zc_X11_isBook rfl (fun v6 ev6 => ?_))
    show jX m_X7_learn 2 0 0 28 [(2, .int v4), (0, .ref 78), (1, .int a1)] [.int v6] _ 0 0 _
    refine x_ifne (tgt := 32) rfl rfl (ti_ne rfl jk_0 ⟨fun c7 => ?_, fun c7 => ?_⟩)
    ·
      rw [if_pos (by omega)] at D
      refine x_iconst (v := 0) rfl ki_0 ?_
      refine x_istoren (lsx9 := [(3, .int 0), (2, .int v4), (0, .ref 78), (1, .int a1)]) rfl rfl rfl ?_
      exact jX.sub (jsb_c rfl (jsb_c rfl (jsb_c rfl (jsb_c rfl jsb_n)))) (ct_X7_learn_r78d_34 hD hQ  4 a1 v4 0 h (by have := jk_0; omega) (jr_of rfl (by omega)) (jr_of rfl (by omega)) (jr_of jk_0 (by omega)) J Sm (by rw [jk_0]; exact D))
    ·
      rw [if_neg (by omega)] at D
      exact jX.sub jsb_n (ct_X7_learn_r78d_31 hD hQ  h J Sm D)
def fp_X8_put_r33_c4d : jFp := [(34, 0, 1200)]
set_option maxRecDepth 100000 in
set_option maxHeartbeats 4000000 in
theorem ct_X8_put_r33_c4d_38 {Dy : jH → Prop} {h0 : jH} {Q : Option Value → jH → Prop} {dr : jW} (hD : jDk Dy) (hQ : ∀ hx9, jJ jSgX Dy hx9 → jSm fp_X8_put_r33_c4d h0 hx9 → dr = vw hx9 → Q none hx9) : ∀ (h : jH), jJ jSgX Dy h → jSm fp_X8_put_r33_c4d h0 h → d_X8_put_r33_c4d_38  (vw h) = dr → jX m_X8_put 1 0 0 38 [] [] h 0 0 Q := by
  intro  h    J Sm D
  unfold d_X8_put_r33_c4d_38 at D
  refine x_vret rfl rfl ?_
  exact hQ _ J Sm D.symm
set_option maxRecDepth 100000 in
set_option maxHeartbeats 4000000 in
theorem sf_X8_put_r33_c4d {Dy : jH → Prop} {h : jH} {Q : Option Value → jH → Prop} {dr : jW} {a1 : Int32} {a3 : Int32} (y1 : 0 ≤ a1.toInt ∧ a1.toInt ≤ 199) (hD : jDk Dy) (J : jJ jSgX Dy h) (D : d_X8_put_r33_c4d a1.toInt a3.toInt (vw h) = dr) (hQ : ∀ hx9, jJ jSgX Dy hx9 → jSm fp_X8_put_r33_c4d h hx9 → dr = vw hx9 → Q none hx9) : jC m_X8_put 1 0 0 [.ref 33, .int a1, .int 4, .int a3] h Q := by
  refine jC.of rfl k_X8_put rfl ?_
  have Sm := jSm_rf fp_X8_put_r33_c4d h
  have ea3 := jfull a3
  show jX m_X8_put 1 0 0 0 [(0, .ref 33), (1, .int a1), (2, .int 4), (3, .int a3)] [] _ 0 0 _
  unfold d_X8_put_r33_c4d at D
  refine x_iloadn (x := a1) rfl rfl ?_
  refine x_iflt (tgt := 38) rfl rfl (ti_lt rfl jk_0 (br_f (by omega) ?_))
  refine x_iloadn (x := a1) rfl rfl ?_
  refine x_aloadn (x := 33) rfl rfl ?_
  refine z_getI (N := 4) 8 3 rfl f_8_7 rfl J rfl sg_33_3_4_1_0_1 (fun v1 qv1 ev1 => ?_)
  try rw [vrf qv1] at D
  refine x_icge (tgt := 38) rfl rfl (ti_ge rfl rfl ⟨fun c2 => ?_, fun c2 => ?_⟩)
  ·
    rw [if_pos (by omega)] at D
    exact jX.sub jsb_n (ct_X8_put_r33_c4d_38 hD hQ  h J Sm D)
  ·
    rw [if_neg (by omega)] at D
    refine x_iloadn (x := 4) rfl rfl ?_
    refine x_iflt (tgt := 38) rfl rfl (ti_lt jk_4 jk_0 (br_f (by omega) ?_))
    refine x_iloadn (x := 4) rfl rfl ?_
    refine x_aloadn (x := 33) rfl rfl ?_
    refine z_getC (N := 4) (v := 6) 8 0 rfl f_8_19 rfl J rfl sg_33_0_1_1_0_1 jk_6 ?_
    refine x_icge (tgt := 38) rfl rfl (ti_ge jk_4 jk_6 (br_f (by omega) ?_))
    refine x_aloadn (x := 33) rfl rfl ?_
    refine z_getR (N := 4) (b := 34) 8 2 rfl f_8_25 rfl J rfl 4226 ⟨rfl, rfl⟩ rfl ?_
    refine x_iloadn (x := a1) rfl rfl ?_
    refine x_aloadn (x := 33) rfl rfl ?_
    refine z_getC (N := 4) (v := 6) 8 0 rfl f_8_19 rfl J rfl sg_33_0_1_1_0_1 jk_6 ?_
    refine z_imul rfl rfl jk_6 (by omega) (fun v3 ev3 => ?_)
    refine x_iloadn (x := 4) rfl rfl ?_
    refine z_iadd rfl rfl jk_4 (by omega) (fun v4 ev4 => ?_)
    refine x_iloadn (x := a3) rfl rfl ?_
    refine z_iast (N := 1200) (l := 0) (u := 1200) (w := a3.toInt) rfl hD J Sm rfl rfl rfl (by omega) rfl (wr_34 (fun q1 q2 q3 q4 => by omega) (fun q1 q2 q3 q4 => by omega) (fun q1 q2 q3 q4 => by omega) (fun q1 q2 q3 q4 => by omega) (fun q1 q2 q3 q4 => by omega)) rfl (fun h w5 J Sm => ?_)
    rw [vww w5 (show ((a1.toInt * 6) + 4) = v4.toInt from by omega) (show a3.toInt = a3.toInt from by omega)] at D
    exact jX.sub jsb_n (ct_X8_put_r33_c4d_38 hD hQ  h J Sm D)
def fp_X11_alter_r31d : jFp := [(31, 12, 13), (32, 19, 20), (34, 0, 1200), (79, 0, 600), (80, 0, 600), (81, 0, 600)]
set_option maxRecDepth 100000 in
set_option maxHeartbeats 4000000 in
theorem sf_X11_alter_r31d {Dy : jH → Prop} {h : jH} {Q : Option Value → jH → Prop} {dr : (Int × jW)} {a1 : Int32} {a2 : Int32} (hD : jDk Dy) (J : jJ jSgX Dy h) (D : d_X11_alter_r31d a1.toInt a2.toInt (vw h) = dr) (hQ : ∀ (v : Int32) hx9, jJ jSgX Dy hx9 → jSm fp_X11_alter_r31d h hx9 → dr.1 = v.toInt → dr.2 = vw hx9 → Q (some (.int v)) hx9) : jC m_X11_alter 3 0 0 [.ref 31, .int a1, .int a2] h Q := by
  refine jC.of rfl k_X11_alter rfl ?_
  have Sm := jSm_rf fp_X11_alter_r31d h
  have ea1 := jfull a1
  have ea2 := jfull a2
  show jX m_X11_alter 3 0 0 0 [(0, .ref 31), (1, .int a1), (2, .int a2)] [] _ 0 0 _
  unfold d_X11_alter_r31d at D
  refine x_iloadn (x := a2) rfl rfl ?_
  refine x_iconst (v := 1) rfl ki_1 ?_
  refine x_sipush (v := 255) rfl ks_255 ?_
  refine x_inst (N := m_X11_isWithin) (As := [.int a2, .int 1, .int 255]) (st := []) (dx9 := 1) (mc := 0) (ms := 0) (host := "") rfl t_X11_isWithin ⟨Or.inl q_11_202, s_X11_isWithin⟩ rfl (by decide) rfl rfl ⟨by decide, by decide⟩ (zc_X11_isWithin rfl jk_1 jk_255 (fun v1 ev1 => ?_))
  show jX m_X11_alter 3 0 0 8 [(0, .ref 31), (1, .int a1), (2, .int a2)] [.int v1] _ 0 0 _
  refine x_ifne (tgt := 17) rfl rfl (ti_ne rfl jk_0 ⟨fun c2 => ?_, fun c2 => ?_⟩)
  ·
    rw [if_pos (by omega)] at D
    refine x_aloadn (x := 31) rfl rfl ?_
    refine x_iloadn (x := a1) rfl rfl ?_
    refine x_inv (N := m_X11_isLine) (As := [.int a1]) (b := 31) (st := []) (dx9 := 2) (mc := 0) (ms := 0) (host := "") 11 rfl t_X11_isLine ⟨Or.inl q_11_168, i_X11_isLine.1, i_X11_isLine.2⟩ ⟨by decide, rfl⟩ (congrArg Prod.fst (J.1.1 31 (11, 13) rfl)) rfl (by decide) rfl rfl ⟨by decide, by decide⟩ (jC.of rfl k_X11_isLine rfl ?_)
    show jX m_X11_isLine 2 0 0 0 [(0, .ref 31), (1, .int a1)] [] _ 0 0 _
    refine x_iloadn (x := a1) rfl rfl ?_
    refine x_iflt (tgt := 22) rfl rfl (ti_lt rfl jk_0 ⟨fun c3 => ?_, fun c3 => ?_⟩)
    ·
      rw [if_pos (by omega)] at D
      refine x_iconst (v := 0) rfl ki_0 ?_
      refine x_zret rfl rfl (by decide) ?_
      show jX m_X11_alter 3 0 0 22 [(0, .ref 31), (1, .int a1), (2, .int a2)] [.int 0] _ 0 0 _
      refine x_ifne (tgt := 32) rfl rfl (ti_ne jk_0 jk_0 (bn_f (by omega) ?_))
      refine x_aloadn (x := 31) rfl rfl ?_
      refine x_bipush (v := (-2)) rfl kb_m2 ?_
      refine x_inv (N := m_X11_refuse) (As := [.int (-2)]) (b := 31) (st := []) (dx9 := 2) (mc := 0) (ms := 0) (host := "") 11 rfl t_X11_refuse ⟨Or.inl q_11_206, i_X11_refuse.1, i_X11_refuse.2⟩ ⟨by decide, rfl⟩ (congrArg Prod.fst (J.1.1 31 (11, 13) rfl)) rfl (by decide) rfl rfl ⟨by decide, by decide⟩ (jC.of rfl k_X11_refuse rfl ?_)
      show jX m_X11_refuse 2 0 0 0 [(0, .ref 31), (1, .int (-2))] [] _ 0 0 _
      refine x_aloadn (x := 31) rfl rfl ?_
      refine x_iloadn (x := (-2)) rfl rfl ?_
      refine z_putI (N := 13) (w := (-2)) 11 12 rfl f_11_94 rfl (jfin_no TX11 RX11 13 rfl rfl) hD J Sm rfl rfl jk_m2 (pw_31_12 (by omega)) rfl (fun h w4 J Sm => ?_)
      rw [vwf w4 (show (-2) = ((-2) : Int32).toInt from by have := jk_m2; omega)] at D
      refine x_iloadn (x := (-2)) rfl rfl ?_
      refine x_iret rfl rfl ?_
      show jX m_X11_alter 3 0 0 31 [(0, .ref 31), (1, .int a1), (2, .int a2)] [.int (-2)] _ 0 0 _
      refine x_iret rfl rfl ?_
      exact hQ _ _ J Sm ((congrArg Prod.fst D).symm.trans (show (-2) = ((-2) : Int32).toInt from by have := jk_m2; omega)) (congrArg Prod.snd D).symm
    ·
      rw [if_neg (by omega)] at D
      refine x_iloadn (x := a1) rfl rfl ?_
      refine x_aloadn (x := 31) rfl rfl ?_
      refine z_getR (N := 13) (b := 32) 11 0 rfl f_11_10 rfl J rfl 3968 ⟨rfl, rfl⟩ rfl ?_
      refine z_getR (N := 20) (b := 33) 1 0 rfl f_11_126 rfl J rfl 4096 ⟨rfl, rfl⟩ rfl ?_
      refine z_getI (N := 4) 8 3 rfl f_11_142 rfl J rfl sg_33_3_4_1_0_1 (fun v5 qv5 ev5 => ?_)
      try rw [vrf qv5] at D
      refine x_icge (tgt := 22) rfl rfl (ti_ge rfl rfl ⟨fun c6 => ?_, fun c6 => ?_⟩)
      ·
        rw [if_pos (by omega)] at D
        refine x_iconst (v := 0) rfl ki_0 ?_
        refine x_zret rfl rfl (by decide) ?_
        show jX m_X11_alter 3 0 0 22 [(0, .ref 31), (1, .int a1), (2, .int a2)] [.int 0] _ 0 0 _
        refine x_ifne (tgt := 32) rfl rfl (ti_ne jk_0 jk_0 (bn_f (by omega) ?_))
        refine x_aloadn (x := 31) rfl rfl ?_
        refine x_bipush (v := (-2)) rfl kb_m2 ?_
        refine x_inv (N := m_X11_refuse) (As := [.int (-2)]) (b := 31) (st := []) (dx9 := 2) (mc := 0) (ms := 0) (host := "") 11 rfl t_X11_refuse ⟨Or.inl q_11_206, i_X11_refuse.1, i_X11_refuse.2⟩ ⟨by decide, rfl⟩ (congrArg Prod.fst (J.1.1 31 (11, 13) rfl)) rfl (by decide) rfl rfl ⟨by decide, by decide⟩ (jC.of rfl k_X11_refuse rfl ?_)
        show jX m_X11_refuse 2 0 0 0 [(0, .ref 31), (1, .int (-2))] [] _ 0 0 _
        refine x_aloadn (x := 31) rfl rfl ?_
        refine x_iloadn (x := (-2)) rfl rfl ?_
        refine z_putI (N := 13) (w := (-2)) 11 12 rfl f_11_94 rfl (jfin_no TX11 RX11 13 rfl rfl) hD J Sm rfl rfl jk_m2 (pw_31_12 (by omega)) rfl (fun h w7 J Sm => ?_)
        rw [vwf w7 (show (-2) = ((-2) : Int32).toInt from by have := jk_m2; omega)] at D
        refine x_iloadn (x := (-2)) rfl rfl ?_
        refine x_iret rfl rfl ?_
        show jX m_X11_alter 3 0 0 31 [(0, .ref 31), (1, .int a1), (2, .int a2)] [.int (-2)] _ 0 0 _
        refine x_iret rfl rfl ?_
        exact hQ _ _ J Sm ((congrArg Prod.fst D).symm.trans (show (-2) = ((-2) : Int32).toInt from by have := jk_m2; omega)) (congrArg Prod.snd D).symm
      ·
        rw [if_neg (by omega)] at D
        refine x_iconst (v := 1) rfl ki_1 ?_
        refine x_goto (tgt := 23) rfl rfl ?_
        refine x_zret rfl rfl (by decide) ?_
        show jX m_X11_alter 3 0 0 22 [(0, .ref 31), (1, .int a1), (2, .int a2)] [.int 1] _ 0 0 _
        refine x_ifne (tgt := 32) rfl rfl (ti_ne jk_1 jk_0 (bn_t (by omega) ?_))
        refine x_aloadn (x := 31) rfl rfl ?_
        refine z_getR (N := 13) (b := 32) 11 0 rfl f_11_10 rfl J rfl 3968 ⟨rfl, rfl⟩ rfl ?_
        refine z_getR (N := 20) (b := 33) 1 0 rfl f_11_126 rfl J rfl 4096 ⟨rfl, rfl⟩ rfl ?_
        refine x_iloadn (x := a1) rfl rfl ?_
        refine x_iconst (v := 4) rfl ki_4 ?_
        refine x_inv (N := m_X8_at) (As := [.int a1, .int 4]) (b := 33) (st := []) (dx9 := 1) (mc := 0) (ms := 0) (host := "") 8 rfl t_X8_at ⟨Or.inl q_11_171, i_X8_at.1, i_X8_at.2⟩ ⟨by decide, rfl⟩ (congrArg Prod.fst (J.1.1 33 (8, 4) rfl)) rfl (by decide) rfl rfl ⟨by decide, by decide⟩ (sf_X8_at_r33_c4d  hD J rfl  (fun v11 h J S8 X9 X10 => ?_))
        have ev11 := jfull v11
        have Sm := jSm_tr rfl Sm S8
        try rw [X9] at D
        try rw [← X10] at D
        show jX m_X11_alter 3 0 0 44 [(0, .ref 31), (1, .int a1), (2, .int a2)] [.int v11] _ 0 0 _
        refine x_iloadn (x := a2) rfl rfl ?_
        refine z_ixorW rfl rfl rfl (fun v12 ev12 => ?_)
        have fv12 := jfull v12
        try rw [← ev12] at D
        refine x_istoren (lsx9 := [(3, .int v12), (0, .ref 31), (1, .int a1), (2, .int a2)]) rfl rfl rfl ?_
        refine x_aloadn (x := 31) rfl rfl ?_
        refine z_getR (N := 13) (b := 32) 11 0 rfl f_11_10 rfl J rfl 3968 ⟨rfl, rfl⟩ rfl ?_
        refine z_getR (N := 20) (b := 33) 1 0 rfl f_11_126 rfl J rfl 4096 ⟨rfl, rfl⟩ rfl ?_
        refine x_iloadn (x := a1) rfl rfl ?_
        refine x_iconst (v := 4) rfl ki_4 ?_
        refine x_iloadn (x := v12) rfl rfl ?_
        refine x_inv (N := m_X8_put) (As := [.int a1, .int 4, .int v12]) (b := 33) (st := []) (dx9 := 1) (mc := 0) (ms := 0) (host := "") 8 rfl t_X8_put ⟨Or.inl q_11_518, i_X8_put.1, i_X8_put.2⟩ ⟨by decide, rfl⟩ (congrArg Prod.fst (J.1.1 33 (8, 4) rfl)) rfl (by decide) rfl rfl ⟨by decide, by decide⟩ (sf_X8_put_r33_c4d (jr_of rfl (by omega)) hD J rfl  (fun h J S13 X14 => ?_))
        have Sm := jSm_tr rfl Sm S13
        rw [X14] at D
        show jX m_X11_alter 3 0 0 60 [(3, .int v12), (0, .ref 31), (1, .int a1), (2, .int a2)] [] _ 0 0 _
        refine x_aloadn (x := 31) rfl rfl ?_
        refine z_getR (N := 13) (b := 78) 11 4 rfl f_11_41 rfl J rfl 3972 ⟨rfl, rfl⟩ rfl ?_
        refine x_iloadn (x := a1) rfl rfl ?_
        refine x_inv (N := m_X7_learn) (As := [.int a1]) (b := 78) (st := []) (dx9 := 2) (mc := 0) (ms := 0) (host := "") 7 rfl t_X7_learn ⟨Or.inl q_11_520, i_X7_learn.1, i_X7_learn.2⟩ ⟨by decide, rfl⟩ (congrArg Prod.fst (J.1.1 78 (7, 16) rfl)) rfl (by decide) rfl rfl ⟨by decide, by decide⟩ (sf_X7_learn_r78d (jr_of rfl (by omega)) hD J rfl  (fun h J S15 X16 => ?_))
        have Sm := jSm_tr rfl Sm S15
        rw [X16] at D
        show jX m_X11_alter 3 0 0 68 [(3, .int v12), (0, .ref 31), (1, .int a1), (2, .int a2)] [] _ 0 0 _
        refine x_aloadn (x := 31) rfl rfl ?_
        refine x_iloadn (x := v12) rfl rfl ?_
        refine x_inv (N := m_X11_accept) (As := [.int v12]) (b := 31) (st := []) (dx9 := 2) (mc := 0) (ms := 0) (host := "") 11 rfl t_X11_accept ⟨Or.inl q_11_165, i_X11_accept.1, i_X11_accept.2⟩ ⟨by decide, rfl⟩ (congrArg Prod.fst (J.1.1 31 (11, 13) rfl)) rfl (by decide) rfl rfl ⟨by decide, by decide⟩ (jC.of rfl k_X11_accept rfl ?_)
        show jX m_X11_accept 2 0 0 0 [(0, .ref 31), (1, .int v12)] [] _ 0 0 _
        refine x_aloadn (x := 31) rfl rfl ?_
        refine x_iconst (v := 0) rfl ki_0 ?_
        refine z_putI (N := 13) (w := 0) 11 12 rfl f_11_94 rfl (jfin_no TX11 RX11 13 rfl rfl) hD J Sm rfl rfl jk_0 (pw_31_12 (by omega)) rfl (fun h w17 J Sm => ?_)
        rw [vwf w17 (show 0 = (0 : Int32).toInt from by have := jk_0; omega)] at D
        refine x_aloadn (x := 31) rfl rfl ?_
        refine z_getR (N := 13) (b := 32) 11 0 rfl f_11_10 rfl J rfl 3968 ⟨rfl, rfl⟩ rfl ?_
        refine x_dup rfl rfl ?_
        refine z_getI0 (N := 20) 1 19 rfl f_11_528 rfl J rfl (fun v18 qv18 => ?_)
        have ev18 := jfull v18
        try rw [vrf (jmb_c S13 (jmb_c S15 (jmb_w w17 qv18 rfl) rfl) rfl)] at D
        refine x_iconst (v := 1) rfl ki_1 ?_
        refine z_iaddW rfl rfl jk_1 (fun v19 ev19 => ?_)
        have fv19 := jfull v19
        try rw [← ev19] at D
        refine z_putI (N := 20) (w := v19.toInt) 1 19 rfl f_11_528 rfl (jfin_no TX1 RX1 20 rfl rfl) hD J Sm rfl rfl rfl (pw_32_19 trivial) rfl (fun h w20 J Sm => ?_)
        rw [vwf w20 (show v19.toInt = v19.toInt from by omega)] at D
        refine x_iloadn (x := v12) rfl rfl ?_
        refine x_iret rfl rfl ?_
        show jX m_X11_alter 3 0 0 73 [(3, .int v12), (0, .ref 31), (1, .int a1), (2, .int a2)] [.int v12] _ 0 0 _
        refine x_iret rfl rfl ?_
        exact hQ _ _ J Sm ((congrArg Prod.fst D).symm.trans (show v12.toInt = v12.toInt from by omega)) (congrArg Prod.snd D).symm
  ·
    rw [if_neg (by omega)] at D
    refine x_aloadn (x := 31) rfl rfl ?_
    refine x_iconst (v := (-1)) rfl ki_m1 ?_
    refine x_inv (N := m_X11_refuse) (As := [.int (-1)]) (b := 31) (st := []) (dx9 := 2) (mc := 0) (ms := 0) (host := "") 11 rfl t_X11_refuse ⟨Or.inl q_11_206, i_X11_refuse.1, i_X11_refuse.2⟩ ⟨by decide, rfl⟩ (congrArg Prod.fst (J.1.1 31 (11, 13) rfl)) rfl (by decide) rfl rfl ⟨by decide, by decide⟩ (jC.of rfl k_X11_refuse rfl ?_)
    show jX m_X11_refuse 2 0 0 0 [(0, .ref 31), (1, .int (-1))] [] _ 0 0 _
    refine x_aloadn (x := 31) rfl rfl ?_
    refine x_iloadn (x := (-1)) rfl rfl ?_
    refine z_putI (N := 13) (w := (-1)) 11 12 rfl f_11_94 rfl (jfin_no TX11 RX11 13 rfl rfl) hD J Sm rfl rfl jk_m1 (pw_31_12 (by omega)) rfl (fun h w21 J Sm => ?_)
    rw [vwf w21 (show (-1) = ((-1) : Int32).toInt from by have := jk_m1; omega)] at D
    refine x_iloadn (x := (-1)) rfl rfl ?_
    refine x_iret rfl rfl ?_
    show jX m_X11_alter 3 0 0 16 [(0, .ref 31), (1, .int a1), (2, .int a2)] [.int (-1)] _ 0 0 _
    refine x_iret rfl rfl ?_
    exact hQ _ _ J Sm ((congrArg Prod.fst D).symm.trans (show (-1) = ((-1) : Int32).toInt from by have := jk_m1; omega)) (congrArg Prod.snd D).symm
def fp_X8_put_r37_c0d : jFp := [(38, 0, 120)]
set_option maxRecDepth 100000 in
set_option maxHeartbeats 4000000 in
theorem ct_X8_put_r37_c0d_38 {Dy : jH → Prop} {h0 : jH} {Q : Option Value → jH → Prop} {dr : jW} (hD : jDk Dy) (hQ : ∀ hx9, jJ jSgX Dy hx9 → jSm fp_X8_put_r37_c0d h0 hx9 → dr = vw hx9 → Q none hx9) : ∀ (h : jH), jJ jSgX Dy h → jSm fp_X8_put_r37_c0d h0 h → d_X8_put_r37_c0d_38  (vw h) = dr → jX m_X8_put 1 0 0 38 [] [] h 0 0 Q := by
  intro  h    J Sm D
  unfold d_X8_put_r37_c0d_38 at D
  refine x_vret rfl rfl ?_
  exact hQ _ J Sm D.symm
set_option maxRecDepth 100000 in
set_option maxHeartbeats 4000000 in
theorem sf_X8_put_r37_c0d {Dy : jH → Prop} {h : jH} {Q : Option Value → jH → Prop} {dr : jW} {a1 : Int32} {a3 : Int32} (y1 : 0 ≤ a1.toInt ∧ a1.toInt ≤ 59) (y3 : 0 ≤ a3.toInt ∧ a3.toInt ≤ 599) (hD : jDk Dy) (J : jJ jSgX Dy h) (D : d_X8_put_r37_c0d a1.toInt a3.toInt (vw h) = dr) (hQ : ∀ hx9, jJ jSgX Dy hx9 → jSm fp_X8_put_r37_c0d h hx9 → dr = vw hx9 → Q none hx9) : jC m_X8_put 1 0 0 [.ref 37, .int a1, .int 0, .int a3] h Q := by
  refine jC.of rfl k_X8_put rfl ?_
  have Sm := jSm_rf fp_X8_put_r37_c0d h
  show jX m_X8_put 1 0 0 0 [(0, .ref 37), (1, .int a1), (2, .int 0), (3, .int a3)] [] _ 0 0 _
  unfold d_X8_put_r37_c0d at D
  refine x_iloadn (x := a1) rfl rfl ?_
  refine x_iflt (tgt := 38) rfl rfl (ti_lt rfl jk_0 (br_f (by omega) ?_))
  refine x_iloadn (x := a1) rfl rfl ?_
  refine x_aloadn (x := 37) rfl rfl ?_
  refine z_getI (N := 4) 8 3 rfl f_8_7 rfl J rfl sg_37_3_4_1_0_1 (fun v1 qv1 ev1 => ?_)
  try rw [vrf qv1] at D
  refine x_icge (tgt := 38) rfl rfl (ti_ge rfl rfl ⟨fun c2 => ?_, fun c2 => ?_⟩)
  ·
    rw [if_pos (by omega)] at D
    exact jX.sub jsb_n (ct_X8_put_r37_c0d_38 hD hQ  h J Sm D)
  ·
    rw [if_neg (by omega)] at D
    refine x_iloadn (x := 0) rfl rfl ?_
    refine x_iflt (tgt := 38) rfl rfl (ti_lt jk_0 jk_0 (br_f (by omega) ?_))
    refine x_iloadn (x := 0) rfl rfl ?_
    refine x_aloadn (x := 37) rfl rfl ?_
    refine z_getC (N := 4) (v := 2) 8 0 rfl f_8_19 rfl J rfl sg_37_0_1_1_0_1 jk_2 ?_
    refine x_icge (tgt := 38) rfl rfl (ti_ge jk_0 jk_2 (br_f (by omega) ?_))
    refine x_aloadn (x := 37) rfl rfl ?_
    refine z_getR (N := 4) (b := 38) 8 2 rfl f_8_25 rfl J rfl 4738 ⟨rfl, rfl⟩ rfl ?_
    refine x_iloadn (x := a1) rfl rfl ?_
    refine x_aloadn (x := 37) rfl rfl ?_
    refine z_getC (N := 4) (v := 2) 8 0 rfl f_8_19 rfl J rfl sg_37_0_1_1_0_1 jk_2 ?_
    refine z_imul rfl rfl jk_2 (by omega) (fun v3 ev3 => ?_)
    refine x_iloadn (x := 0) rfl rfl ?_
    refine z_iadd rfl rfl jk_0 (by omega) (fun v4 ev4 => ?_)
    refine x_iloadn (x := a3) rfl rfl ?_
    refine z_iast (N := 120) (l := 0) (u := 120) (w := a3.toInt) rfl hD J Sm rfl rfl rfl (by omega) rfl (wr_38 (fun q1 q2 q3 q4 => by omega) (fun q1 q2 q3 q4 => by omega)) rfl (fun h w5 J Sm => ?_)
    rw [vww w5 (show ((a1.toInt * 2) + 0) = v4.toInt from by omega) (show a3.toInt = a3.toInt from by omega)] at D
    exact jX.sub jsb_n (ct_X8_put_r37_c0d_38 hD hQ  h J Sm D)
def fp_X8_put_r37_c1d : jFp := [(38, 0, 120)]
set_option maxRecDepth 100000 in
set_option maxHeartbeats 4000000 in
theorem ct_X8_put_r37_c1d_38 {Dy : jH → Prop} {h0 : jH} {Q : Option Value → jH → Prop} {dr : jW} (hD : jDk Dy) (hQ : ∀ hx9, jJ jSgX Dy hx9 → jSm fp_X8_put_r37_c1d h0 hx9 → dr = vw hx9 → Q none hx9) : ∀ (h : jH), jJ jSgX Dy h → jSm fp_X8_put_r37_c1d h0 h → d_X8_put_r37_c1d_38  (vw h) = dr → jX m_X8_put 1 0 0 38 [] [] h 0 0 Q := by
  intro  h    J Sm D
  unfold d_X8_put_r37_c1d_38 at D
  refine x_vret rfl rfl ?_
  exact hQ _ J Sm D.symm
set_option maxRecDepth 100000 in
set_option maxHeartbeats 4000000 in
theorem sf_X8_put_r37_c1d {Dy : jH → Prop} {h : jH} {Q : Option Value → jH → Prop} {dr : jW} {a1 : Int32} {a3 : Int32} (y1 : 0 ≤ a1.toInt ∧ a1.toInt ≤ 59) (y3 : 0 ≤ a3.toInt ∧ a3.toInt ≤ 599) (hD : jDk Dy) (J : jJ jSgX Dy h) (D : d_X8_put_r37_c1d a1.toInt a3.toInt (vw h) = dr) (hQ : ∀ hx9, jJ jSgX Dy hx9 → jSm fp_X8_put_r37_c1d h hx9 → dr = vw hx9 → Q none hx9) : jC m_X8_put 1 0 0 [.ref 37, .int a1, .int 1, .int a3] h Q := by
  refine jC.of rfl k_X8_put rfl ?_
  have Sm := jSm_rf fp_X8_put_r37_c1d h
  show jX m_X8_put 1 0 0 0 [(0, .ref 37), (1, .int a1), (2, .int 1), (3, .int a3)] [] _ 0 0 _
  unfold d_X8_put_r37_c1d at D
  refine x_iloadn (x := a1) rfl rfl ?_
  refine x_iflt (tgt := 38) rfl rfl (ti_lt rfl jk_0 (br_f (by omega) ?_))
  refine x_iloadn (x := a1) rfl rfl ?_
  refine x_aloadn (x := 37) rfl rfl ?_
  refine z_getI (N := 4) 8 3 rfl f_8_7 rfl J rfl sg_37_3_4_1_0_1 (fun v1 qv1 ev1 => ?_)
  try rw [vrf qv1] at D
  refine x_icge (tgt := 38) rfl rfl (ti_ge rfl rfl ⟨fun c2 => ?_, fun c2 => ?_⟩)
  ·
    rw [if_pos (by omega)] at D
    exact jX.sub jsb_n (ct_X8_put_r37_c1d_38 hD hQ  h J Sm D)
  ·
    rw [if_neg (by omega)] at D
    refine x_iloadn (x := 1) rfl rfl ?_
    refine x_iflt (tgt := 38) rfl rfl (ti_lt jk_1 jk_0 (br_f (by omega) ?_))
    refine x_iloadn (x := 1) rfl rfl ?_
    refine x_aloadn (x := 37) rfl rfl ?_
    refine z_getC (N := 4) (v := 2) 8 0 rfl f_8_19 rfl J rfl sg_37_0_1_1_0_1 jk_2 ?_
    refine x_icge (tgt := 38) rfl rfl (ti_ge jk_1 jk_2 (br_f (by omega) ?_))
    refine x_aloadn (x := 37) rfl rfl ?_
    refine z_getR (N := 4) (b := 38) 8 2 rfl f_8_25 rfl J rfl 4738 ⟨rfl, rfl⟩ rfl ?_
    refine x_iloadn (x := a1) rfl rfl ?_
    refine x_aloadn (x := 37) rfl rfl ?_
    refine z_getC (N := 4) (v := 2) 8 0 rfl f_8_19 rfl J rfl sg_37_0_1_1_0_1 jk_2 ?_
    refine z_imul rfl rfl jk_2 (by omega) (fun v3 ev3 => ?_)
    refine x_iloadn (x := 1) rfl rfl ?_
    refine z_iadd rfl rfl jk_1 (by omega) (fun v4 ev4 => ?_)
    refine x_iloadn (x := a3) rfl rfl ?_
    refine z_iast (N := 120) (l := 0) (u := 120) (w := a3.toInt) rfl hD J Sm rfl rfl rfl (by omega) rfl (wr_38 (fun q1 q2 q3 q4 => by omega) (fun q1 q2 q3 q4 => by omega)) rfl (fun h w5 J Sm => ?_)
    rw [vww w5 (show ((a1.toInt * 2) + 1) = v4.toInt from by omega) (show a3.toInt = a3.toInt from by omega)] at D
    exact jX.sub jsb_n (ct_X8_put_r37_c1d_38 hD hQ  h J Sm D)
def fp_X8_put_r37_c2d : jFp := []
set_option maxRecDepth 100000 in
set_option maxHeartbeats 4000000 in
theorem ct_X8_put_r37_c2d_38 {Dy : jH → Prop} {h0 : jH} {Q : Option Value → jH → Prop} {dr : jW} (hD : jDk Dy) (hQ : ∀ hx9, jJ jSgX Dy hx9 → jSm fp_X8_put_r37_c2d h0 hx9 → dr = vw hx9 → Q none hx9) : ∀ (h : jH), jJ jSgX Dy h → jSm fp_X8_put_r37_c2d h0 h → d_X8_put_r37_c2d_38  (vw h) = dr → jX m_X8_put 1 0 0 38 [] [] h 0 0 Q := by
  intro  h    J Sm D
  unfold d_X8_put_r37_c2d_38 at D
  refine x_vret rfl rfl ?_
  exact hQ _ J Sm D.symm
set_option maxRecDepth 100000 in
set_option maxHeartbeats 4000000 in
theorem sf_X8_put_r37_c2d {Dy : jH → Prop} {h : jH} {Q : Option Value → jH → Prop} {dr : jW} {a1 : Int32} {a3 : Int32} (y1 : 0 ≤ a1.toInt ∧ a1.toInt ≤ 59) (y3 : 0 ≤ a3.toInt ∧ a3.toInt ≤ 0) (hD : jDk Dy) (J : jJ jSgX Dy h) (D : d_X8_put_r37_c2d a1.toInt a3.toInt (vw h) = dr) (hQ : ∀ hx9, jJ jSgX Dy hx9 → jSm fp_X8_put_r37_c2d h hx9 → dr = vw hx9 → Q none hx9) : jC m_X8_put 1 0 0 [.ref 37, .int a1, .int 2, .int a3] h Q := by
  refine jC.of rfl k_X8_put rfl ?_
  have Sm := jSm_rf fp_X8_put_r37_c2d h
  show jX m_X8_put 1 0 0 0 [(0, .ref 37), (1, .int a1), (2, .int 2), (3, .int a3)] [] _ 0 0 _
  unfold d_X8_put_r37_c2d at D
  refine x_iloadn (x := a1) rfl rfl ?_
  refine x_iflt (tgt := 38) rfl rfl (ti_lt rfl jk_0 (br_f (by omega) ?_))
  refine x_iloadn (x := a1) rfl rfl ?_
  refine x_aloadn (x := 37) rfl rfl ?_
  refine z_getI (N := 4) 8 3 rfl f_8_7 rfl J rfl sg_37_3_4_1_0_1 (fun v1 qv1 ev1 => ?_)
  try rw [vrf qv1] at D
  refine x_icge (tgt := 38) rfl rfl (ti_ge rfl rfl ⟨fun c2 => ?_, fun c2 => ?_⟩)
  ·
    rw [if_pos (by omega)] at D
    exact jX.sub jsb_n (ct_X8_put_r37_c2d_38 hD hQ  h J Sm D)
  ·
    rw [if_neg (by omega)] at D
    refine x_iloadn (x := 2) rfl rfl ?_
    refine x_iflt (tgt := 38) rfl rfl (ti_lt jk_2 jk_0 (br_f (by omega) ?_))
    refine x_iloadn (x := 2) rfl rfl ?_
    refine x_aloadn (x := 37) rfl rfl ?_
    refine z_getC (N := 4) (v := 2) 8 0 rfl f_8_19 rfl J rfl sg_37_0_1_1_0_1 jk_2 ?_
    refine x_icge (tgt := 38) rfl rfl (ti_ge jk_2 jk_2 (br_t (by omega) ?_))
    exact jX.sub jsb_n (ct_X8_put_r37_c2d_38 hD hQ  h J Sm D)
def fp_X8_put_r37_c3d : jFp := []
set_option maxRecDepth 100000 in
set_option maxHeartbeats 4000000 in
theorem ct_X8_put_r37_c3d_38 {Dy : jH → Prop} {h0 : jH} {Q : Option Value → jH → Prop} {dr : jW} (hD : jDk Dy) (hQ : ∀ hx9, jJ jSgX Dy hx9 → jSm fp_X8_put_r37_c3d h0 hx9 → dr = vw hx9 → Q none hx9) : ∀ (h : jH), jJ jSgX Dy h → jSm fp_X8_put_r37_c3d h0 h → d_X8_put_r37_c3d_38  (vw h) = dr → jX m_X8_put 1 0 0 38 [] [] h 0 0 Q := by
  intro  h    J Sm D
  unfold d_X8_put_r37_c3d_38 at D
  refine x_vret rfl rfl ?_
  exact hQ _ J Sm D.symm
set_option maxRecDepth 100000 in
set_option maxHeartbeats 4000000 in
theorem sf_X8_put_r37_c3d {Dy : jH → Prop} {h : jH} {Q : Option Value → jH → Prop} {dr : jW} {a1 : Int32} {a3 : Int32} (y1 : 0 ≤ a1.toInt ∧ a1.toInt ≤ 59) (y3 : 0 ≤ a3.toInt ∧ a3.toInt ≤ 0) (hD : jDk Dy) (J : jJ jSgX Dy h) (D : d_X8_put_r37_c3d a1.toInt a3.toInt (vw h) = dr) (hQ : ∀ hx9, jJ jSgX Dy hx9 → jSm fp_X8_put_r37_c3d h hx9 → dr = vw hx9 → Q none hx9) : jC m_X8_put 1 0 0 [.ref 37, .int a1, .int 3, .int a3] h Q := by
  refine jC.of rfl k_X8_put rfl ?_
  have Sm := jSm_rf fp_X8_put_r37_c3d h
  show jX m_X8_put 1 0 0 0 [(0, .ref 37), (1, .int a1), (2, .int 3), (3, .int a3)] [] _ 0 0 _
  unfold d_X8_put_r37_c3d at D
  refine x_iloadn (x := a1) rfl rfl ?_
  refine x_iflt (tgt := 38) rfl rfl (ti_lt rfl jk_0 (br_f (by omega) ?_))
  refine x_iloadn (x := a1) rfl rfl ?_
  refine x_aloadn (x := 37) rfl rfl ?_
  refine z_getI (N := 4) 8 3 rfl f_8_7 rfl J rfl sg_37_3_4_1_0_1 (fun v1 qv1 ev1 => ?_)
  try rw [vrf qv1] at D
  refine x_icge (tgt := 38) rfl rfl (ti_ge rfl rfl ⟨fun c2 => ?_, fun c2 => ?_⟩)
  ·
    rw [if_pos (by omega)] at D
    exact jX.sub jsb_n (ct_X8_put_r37_c3d_38 hD hQ  h J Sm D)
  ·
    rw [if_neg (by omega)] at D
    refine x_iloadn (x := 3) rfl rfl ?_
    refine x_iflt (tgt := 38) rfl rfl (ti_lt jk_3 jk_0 (br_f (by omega) ?_))
    refine x_iloadn (x := 3) rfl rfl ?_
    refine x_aloadn (x := 37) rfl rfl ?_
    refine z_getC (N := 4) (v := 2) 8 0 rfl f_8_19 rfl J rfl sg_37_0_1_1_0_1 jk_2 ?_
    refine x_icge (tgt := 38) rfl rfl (ti_ge jk_3 jk_2 (br_t (by omega) ?_))
    exact jX.sub jsb_n (ct_X8_put_r37_c3d_38 hD hQ  h J Sm D)
def fp_X8_put_r37_c4d : jFp := []
set_option maxRecDepth 100000 in
set_option maxHeartbeats 4000000 in
theorem ct_X8_put_r37_c4d_38 {Dy : jH → Prop} {h0 : jH} {Q : Option Value → jH → Prop} {dr : jW} (hD : jDk Dy) (hQ : ∀ hx9, jJ jSgX Dy hx9 → jSm fp_X8_put_r37_c4d h0 hx9 → dr = vw hx9 → Q none hx9) : ∀ (h : jH), jJ jSgX Dy h → jSm fp_X8_put_r37_c4d h0 h → d_X8_put_r37_c4d_38  (vw h) = dr → jX m_X8_put 1 0 0 38 [] [] h 0 0 Q := by
  intro  h    J Sm D
  unfold d_X8_put_r37_c4d_38 at D
  refine x_vret rfl rfl ?_
  exact hQ _ J Sm D.symm
set_option maxRecDepth 100000 in
set_option maxHeartbeats 4000000 in
theorem sf_X8_put_r37_c4d {Dy : jH → Prop} {h : jH} {Q : Option Value → jH → Prop} {dr : jW} {a1 : Int32} {a3 : Int32} (y1 : 0 ≤ a1.toInt ∧ a1.toInt ≤ 59) (y3 : 0 ≤ a3.toInt ∧ a3.toInt ≤ 0) (hD : jDk Dy) (J : jJ jSgX Dy h) (D : d_X8_put_r37_c4d a1.toInt a3.toInt (vw h) = dr) (hQ : ∀ hx9, jJ jSgX Dy hx9 → jSm fp_X8_put_r37_c4d h hx9 → dr = vw hx9 → Q none hx9) : jC m_X8_put 1 0 0 [.ref 37, .int a1, .int 4, .int a3] h Q := by
  refine jC.of rfl k_X8_put rfl ?_
  have Sm := jSm_rf fp_X8_put_r37_c4d h
  show jX m_X8_put 1 0 0 0 [(0, .ref 37), (1, .int a1), (2, .int 4), (3, .int a3)] [] _ 0 0 _
  unfold d_X8_put_r37_c4d at D
  refine x_iloadn (x := a1) rfl rfl ?_
  refine x_iflt (tgt := 38) rfl rfl (ti_lt rfl jk_0 (br_f (by omega) ?_))
  refine x_iloadn (x := a1) rfl rfl ?_
  refine x_aloadn (x := 37) rfl rfl ?_
  refine z_getI (N := 4) 8 3 rfl f_8_7 rfl J rfl sg_37_3_4_1_0_1 (fun v1 qv1 ev1 => ?_)
  try rw [vrf qv1] at D
  refine x_icge (tgt := 38) rfl rfl (ti_ge rfl rfl ⟨fun c2 => ?_, fun c2 => ?_⟩)
  ·
    rw [if_pos (by omega)] at D
    exact jX.sub jsb_n (ct_X8_put_r37_c4d_38 hD hQ  h J Sm D)
  ·
    rw [if_neg (by omega)] at D
    refine x_iloadn (x := 4) rfl rfl ?_
    refine x_iflt (tgt := 38) rfl rfl (ti_lt jk_4 jk_0 (br_f (by omega) ?_))
    refine x_iloadn (x := 4) rfl rfl ?_
    refine x_aloadn (x := 37) rfl rfl ?_
    refine z_getC (N := 4) (v := 2) 8 0 rfl f_8_19 rfl J rfl sg_37_0_1_1_0_1 jk_2 ?_
    refine x_icge (tgt := 38) rfl rfl (ti_ge jk_4 jk_2 (br_t (by omega) ?_))
    exact jX.sub jsb_n (ct_X8_put_r37_c4d_38 hD hQ  h J Sm D)
def fp_X8_put_r37_c5d : jFp := []
set_option maxRecDepth 100000 in
set_option maxHeartbeats 4000000 in
theorem ct_X8_put_r37_c5d_38 {Dy : jH → Prop} {h0 : jH} {Q : Option Value → jH → Prop} {dr : jW} (hD : jDk Dy) (hQ : ∀ hx9, jJ jSgX Dy hx9 → jSm fp_X8_put_r37_c5d h0 hx9 → dr = vw hx9 → Q none hx9) : ∀ (h : jH), jJ jSgX Dy h → jSm fp_X8_put_r37_c5d h0 h → d_X8_put_r37_c5d_38  (vw h) = dr → jX m_X8_put 1 0 0 38 [] [] h 0 0 Q := by
  intro  h    J Sm D
  unfold d_X8_put_r37_c5d_38 at D
  refine x_vret rfl rfl ?_
  exact hQ _ J Sm D.symm
set_option maxRecDepth 100000 in
set_option maxHeartbeats 4000000 in
theorem sf_X8_put_r37_c5d {Dy : jH → Prop} {h : jH} {Q : Option Value → jH → Prop} {dr : jW} {a1 : Int32} {a3 : Int32} (y1 : 0 ≤ a1.toInt ∧ a1.toInt ≤ 59) (y3 : 0 ≤ a3.toInt ∧ a3.toInt ≤ 0) (hD : jDk Dy) (J : jJ jSgX Dy h) (D : d_X8_put_r37_c5d a1.toInt a3.toInt (vw h) = dr) (hQ : ∀ hx9, jJ jSgX Dy hx9 → jSm fp_X8_put_r37_c5d h hx9 → dr = vw hx9 → Q none hx9) : jC m_X8_put 1 0 0 [.ref 37, .int a1, .int 5, .int a3] h Q := by
  refine jC.of rfl k_X8_put rfl ?_
  have Sm := jSm_rf fp_X8_put_r37_c5d h
  show jX m_X8_put 1 0 0 0 [(0, .ref 37), (1, .int a1), (2, .int 5), (3, .int a3)] [] _ 0 0 _
  unfold d_X8_put_r37_c5d at D
  refine x_iloadn (x := a1) rfl rfl ?_
  refine x_iflt (tgt := 38) rfl rfl (ti_lt rfl jk_0 (br_f (by omega) ?_))
  refine x_iloadn (x := a1) rfl rfl ?_
  refine x_aloadn (x := 37) rfl rfl ?_
  refine z_getI (N := 4) 8 3 rfl f_8_7 rfl J rfl sg_37_3_4_1_0_1 (fun v1 qv1 ev1 => ?_)
  try rw [vrf qv1] at D
  refine x_icge (tgt := 38) rfl rfl (ti_ge rfl rfl ⟨fun c2 => ?_, fun c2 => ?_⟩)
  ·
    rw [if_pos (by omega)] at D
    exact jX.sub jsb_n (ct_X8_put_r37_c5d_38 hD hQ  h J Sm D)
  ·
    rw [if_neg (by omega)] at D
    refine x_iloadn (x := 5) rfl rfl ?_
    refine x_iflt (tgt := 38) rfl rfl (ti_lt jk_5 jk_0 (br_f (by omega) ?_))
    refine x_iloadn (x := 5) rfl rfl ?_
    refine x_aloadn (x := 37) rfl rfl ?_
    refine z_getC (N := 4) (v := 2) 8 0 rfl f_8_19 rfl J rfl sg_37_0_1_1_0_1 jk_2 ?_
    refine x_icge (tgt := 38) rfl rfl (ti_ge jk_5 jk_2 (br_t (by omega) ?_))
    exact jX.sub jsb_n (ct_X8_put_r37_c5d_38 hD hQ  h J Sm D)
def fp_X8_add_r37d : jFp := [(37, 3, 4), (38, 0, 120)]
set_option maxRecDepth 100000 in
set_option maxHeartbeats 4000000 in
theorem sf_X8_add_r37d {Dy : jH → Prop} {h : jH} {Q : Option Value → jH → Prop} {dr : jW} {a1 : Int32} {a2 : Int32} {a3 : Int32} {a4 : Int32} {a5 : Int32} {a6 : Int32} (y1 : 0 ≤ a1.toInt ∧ a1.toInt ≤ 599) (y2 : 0 ≤ a2.toInt ∧ a2.toInt ≤ 599) (y3 : 0 ≤ a3.toInt ∧ a3.toInt ≤ 0) (y4 : 0 ≤ a4.toInt ∧ a4.toInt ≤ 0) (y5 : 0 ≤ a5.toInt ∧ a5.toInt ≤ 0) (y6 : 0 ≤ a6.toInt ∧ a6.toInt ≤ 0) (hD : jDk Dy) (J : jJ jSgX Dy h) (D : d_X8_add_r37d a1.toInt a2.toInt a3.toInt a4.toInt a5.toInt a6.toInt (vw h) = dr) (hQ : ∀ hx9, jJ jSgX Dy hx9 → jSm fp_X8_add_r37d h hx9 → dr = vw hx9 → Q none hx9) : jC m_X8_add 2 0 0 [.ref 37, .int a1, .int a2, .int a3, .int a4, .int a5, .int a6] h Q := by
  refine jC.of rfl k_X8_add rfl ?_
  have Sm := jSm_rf fp_X8_add_r37d h
  show jX m_X8_add 2 0 0 0 [(0, .ref 37), (1, .int a1), (2, .int a2), (3, .int a3), (4, .int a4), (5, .int a5), (6, .int a6)] [] _ 0 0 _
  unfold d_X8_add_r37d at D
  refine x_aloadn (x := 37) rfl rfl ?_
  refine z_getI (N := 4) 8 3 rfl f_8_7 rfl J rfl sg_37_3_4_1_0_1 (fun v1 qv1 ev1 => ?_)
  try rw [vrf qv1] at D
  refine x_aloadn (x := 37) rfl rfl ?_
  refine z_getC (N := 4) (v := 60) 8 1 rfl f_8_22 rfl J rfl sg_37_1_2_1_0_1 jk_60 ?_
  refine x_iclt (tgt := 12) rfl rfl (ti_lt rfl jk_60 ⟨fun c2 => ?_, fun c2 => ?_⟩)
  ·
    rw [if_pos (by omega)] at D
    refine x_aloadn (x := 37) rfl rfl ?_
    refine z_getM (N := 4) (v := v1) 8 3 rfl f_8_7 rfl J rfl qv1 ?_
    refine x_istore (lsx9 := [(7, .int v1), (0, .ref 37), (1, .int a1), (2, .int a2), (3, .int a3), (4, .int a4), (5, .int a5), (6, .int a6)]) rfl rfl rfl ?_
    refine x_aloadn (x := 37) rfl rfl ?_
    refine x_iload (x := v1) rfl rfl ?_
    refine x_iconst (v := 1) rfl ki_1 ?_
    refine z_iadd rfl rfl jk_1 (by omega) (fun v3 ev3 => ?_)
    refine z_putI (N := 4) (w := v3.toInt) 8 3 rfl f_8_7 rfl (jfin_no TX8 RX8 4 rfl rfl) hD J Sm rfl rfl rfl (pw_37_3 (by omega)) rfl (fun h w4 J Sm => ?_)
    rw [vwf w4 (show (v1.toInt + 1) = v3.toInt from by omega)] at D
    refine x_aloadn (x := 37) rfl rfl ?_
    refine x_iload (x := v1) rfl rfl ?_
    refine x_iconst (v := 0) rfl ki_0 ?_
    refine x_iloadn (x := a1) rfl rfl ?_
    refine x_inv (N := m_X8_put) (As := [.int v1, .int 0, .int a1]) (b := 37) (st := []) (dx9 := 1) (mc := 0) (ms := 0) (host := "") 8 rfl t_X8_put ⟨Or.inl q_8_29, i_X8_put.1, i_X8_put.2⟩ ⟨by decide, rfl⟩ (congrArg Prod.fst (J.1.1 37 (8, 4) rfl)) rfl (by decide) rfl rfl ⟨by decide, by decide⟩ (sf_X8_put_r37_c0d (jr_of rfl (by omega)) (jr_of rfl (by omega)) hD J rfl  (fun h J S5 X6 => ?_))
    have Sm := jSm_tr rfl Sm S5
    rw [X6] at D
    show jX m_X8_add 2 0 0 34 [(7, .int v1), (0, .ref 37), (1, .int a1), (2, .int a2), (3, .int a3), (4, .int a4), (5, .int a5), (6, .int a6)] [] _ 0 0 _
    refine x_aloadn (x := 37) rfl rfl ?_
    refine x_iload (x := v1) rfl rfl ?_
    refine x_iconst (v := 1) rfl ki_1 ?_
    refine x_iloadn (x := a2) rfl rfl ?_
    refine x_inv (N := m_X8_put) (As := [.int v1, .int 1, .int a2]) (b := 37) (st := []) (dx9 := 1) (mc := 0) (ms := 0) (host := "") 8 rfl t_X8_put ⟨Or.inl q_8_29, i_X8_put.1, i_X8_put.2⟩ ⟨by decide, rfl⟩ (congrArg Prod.fst (J.1.1 37 (8, 4) rfl)) rfl (by decide) rfl rfl ⟨by decide, by decide⟩ (sf_X8_put_r37_c1d (jr_of rfl (by omega)) (jr_of rfl (by omega)) hD J rfl  (fun h J S7 X8 => ?_))
    have Sm := jSm_tr rfl Sm S7
    rw [X8] at D
    show jX m_X8_add 2 0 0 42 [(7, .int v1), (0, .ref 37), (1, .int a1), (2, .int a2), (3, .int a3), (4, .int a4), (5, .int a5), (6, .int a6)] [] _ 0 0 _
    refine x_aloadn (x := 37) rfl rfl ?_
    refine x_iload (x := v1) rfl rfl ?_
    refine x_iconst (v := 2) rfl ki_2 ?_
    refine x_iloadn (x := a3) rfl rfl ?_
    refine x_inv (N := m_X8_put) (As := [.int v1, .int 2, .int a3]) (b := 37) (st := []) (dx9 := 1) (mc := 0) (ms := 0) (host := "") 8 rfl t_X8_put ⟨Or.inl q_8_29, i_X8_put.1, i_X8_put.2⟩ ⟨by decide, rfl⟩ (congrArg Prod.fst (J.1.1 37 (8, 4) rfl)) rfl (by decide) rfl rfl ⟨by decide, by decide⟩ (sf_X8_put_r37_c2d (jr_of rfl (by omega)) (jr_of rfl (by omega)) hD J rfl  (fun h J S9 X10 => ?_))
    have Sm := jSm_tr rfl Sm S9
    rw [X10] at D
    show jX m_X8_add 2 0 0 50 [(7, .int v1), (0, .ref 37), (1, .int a1), (2, .int a2), (3, .int a3), (4, .int a4), (5, .int a5), (6, .int a6)] [] _ 0 0 _
    refine x_aloadn (x := 37) rfl rfl ?_
    refine x_iload (x := v1) rfl rfl ?_
    refine x_iconst (v := 3) rfl ki_3 ?_
    refine x_iload (x := a4) rfl rfl ?_
    refine x_inv (N := m_X8_put) (As := [.int v1, .int 3, .int a4]) (b := 37) (st := []) (dx9 := 1) (mc := 0) (ms := 0) (host := "") 8 rfl t_X8_put ⟨Or.inl q_8_29, i_X8_put.1, i_X8_put.2⟩ ⟨by decide, rfl⟩ (congrArg Prod.fst (J.1.1 37 (8, 4) rfl)) rfl (by decide) rfl rfl ⟨by decide, by decide⟩ (sf_X8_put_r37_c3d (jr_of rfl (by omega)) (jr_of rfl (by omega)) hD J rfl  (fun h J S11 X12 => ?_))
    have Sm := jSm_tr rfl Sm S11
    rw [X12] at D
    show jX m_X8_add 2 0 0 59 [(7, .int v1), (0, .ref 37), (1, .int a1), (2, .int a2), (3, .int a3), (4, .int a4), (5, .int a5), (6, .int a6)] [] _ 0 0 _
    refine x_aloadn (x := 37) rfl rfl ?_
    refine x_iload (x := v1) rfl rfl ?_
    refine x_iconst (v := 4) rfl ki_4 ?_
    refine x_iload (x := a5) rfl rfl ?_
    refine x_inv (N := m_X8_put) (As := [.int v1, .int 4, .int a5]) (b := 37) (st := []) (dx9 := 1) (mc := 0) (ms := 0) (host := "") 8 rfl t_X8_put ⟨Or.inl q_8_29, i_X8_put.1, i_X8_put.2⟩ ⟨by decide, rfl⟩ (congrArg Prod.fst (J.1.1 37 (8, 4) rfl)) rfl (by decide) rfl rfl ⟨by decide, by decide⟩ (sf_X8_put_r37_c4d (jr_of rfl (by omega)) (jr_of rfl (by omega)) hD J rfl  (fun h J S13 X14 => ?_))
    have Sm := jSm_tr rfl Sm S13
    rw [X14] at D
    show jX m_X8_add 2 0 0 68 [(7, .int v1), (0, .ref 37), (1, .int a1), (2, .int a2), (3, .int a3), (4, .int a4), (5, .int a5), (6, .int a6)] [] _ 0 0 _
    refine x_aloadn (x := 37) rfl rfl ?_
    refine x_iload (x := v1) rfl rfl ?_
    refine x_iconst (v := 5) rfl ki_5 ?_
    refine x_iload (x := a6) rfl rfl ?_
    refine x_inv (N := m_X8_put) (As := [.int v1, .int 5, .int a6]) (b := 37) (st := []) (dx9 := 1) (mc := 0) (ms := 0) (host := "") 8 rfl t_X8_put ⟨Or.inl q_8_29, i_X8_put.1, i_X8_put.2⟩ ⟨by decide, rfl⟩ (congrArg Prod.fst (J.1.1 37 (8, 4) rfl)) rfl (by decide) rfl rfl ⟨by decide, by decide⟩ (sf_X8_put_r37_c5d (jr_of rfl (by omega)) (jr_of rfl (by omega)) hD J rfl  (fun h J S15 X16 => ?_))
    have Sm := jSm_tr rfl Sm S15
    rw [X16] at D
    show jX m_X8_add 2 0 0 77 [(7, .int v1), (0, .ref 37), (1, .int a1), (2, .int a2), (3, .int a3), (4, .int a4), (5, .int a5), (6, .int a6)] [] _ 0 0 _
    refine x_vret rfl rfl ?_
    exact hQ _ J Sm D.symm
  ·
    rw [if_neg (by omega)] at D
    refine x_vret rfl rfl ?_
    exact hQ _ J Sm D.symm
def fp_X8_isFull_r37d : jFp := []
set_option maxRecDepth 100000 in
set_option maxHeartbeats 4000000 in
theorem ct_X8_isFull_r37d_200016 {Dy : jH → Prop} {h0 : jH} {Q : Option Value → jH → Prop} {dr : Int} (hD : jDk Dy) (hQ : ∀ (v : Int32) hx9, 0 ≤ v.toInt ∧ v.toInt ≤ 1 → jJ jSgX Dy hx9 → jSm fp_X8_isFull_r37d h0 hx9 → dr = v.toInt → vw hx9 = vw h0 → Q (some (.int v)) hx9) : ∀ (h : jH), jJ jSgX Dy h → jSm fp_X8_isFull_r37d h0 h → d_X8_isFull_r37d_200016  (vw h) = dr → vw h = vw h0 → jX m_X8_isFull 1 0 0 16 [] [.int 0] h 0 0 Q := by
  intro  h    J Sm D EV
  unfold d_X8_isFull_r37d_200016 at D
  refine x_zret rfl rfl (by decide) ?_
  exact hQ _ _ (jr_of jk_0 (by omega)) J Sm (D.symm.trans (show 0 = (0 : Int32).toInt from by have := jk_0; omega)) EV
set_option maxRecDepth 100000 in
set_option maxHeartbeats 4000000 in
theorem ct_X8_isFull_r37d_300016 {Dy : jH → Prop} {h0 : jH} {Q : Option Value → jH → Prop} {dr : Int} (hD : jDk Dy) (hQ : ∀ (v : Int32) hx9, 0 ≤ v.toInt ∧ v.toInt ≤ 1 → jJ jSgX Dy hx9 → jSm fp_X8_isFull_r37d h0 hx9 → dr = v.toInt → vw hx9 = vw h0 → Q (some (.int v)) hx9) : ∀ (h : jH), jJ jSgX Dy h → jSm fp_X8_isFull_r37d h0 h → d_X8_isFull_r37d_300016  (vw h) = dr → vw h = vw h0 → jX m_X8_isFull 1 0 0 16 [] [.int 1] h 0 0 Q := by
  intro  h    J Sm D EV
  unfold d_X8_isFull_r37d_300016 at D
  refine x_zret rfl rfl (by decide) ?_
  exact hQ _ _ (jr_of jk_1 (by omega)) J Sm (D.symm.trans (show 1 = (1 : Int32).toInt from by have := jk_1; omega)) EV
set_option maxRecDepth 100000 in
set_option maxHeartbeats 4000000 in
theorem sf_X8_isFull_r37d {Dy : jH → Prop} {h : jH} {Q : Option Value → jH → Prop} {dr : Int} (hD : jDk Dy) (J : jJ jSgX Dy h) (D : d_X8_isFull_r37d (vw h) = dr) (hQ : ∀ (v : Int32) hx9, 0 ≤ v.toInt ∧ v.toInt ≤ 1 → jJ jSgX Dy hx9 → jSm fp_X8_isFull_r37d h hx9 → dr = v.toInt → vw hx9 = vw h → Q (some (.int v)) hx9) : jC m_X8_isFull 1 0 0 [.ref 37] h Q := by
  refine jC.of rfl k_X8_isFull rfl ?_
  have Sm := jSm_rf fp_X8_isFull_r37d h
  show jX m_X8_isFull 1 0 0 0 [(0, .ref 37)] [] _ 0 0 _
  unfold d_X8_isFull_r37d at D
  have EV : vw h = vw h := rfl
  refine x_aloadn (x := 37) rfl rfl ?_
  refine z_getI (N := 4) 8 3 rfl f_8_7 rfl J rfl sg_37_3_4_1_0_1 (fun v1 qv1 ev1 => ?_)
  try rw [vrf qv1] at D
  refine x_aloadn (x := 37) rfl rfl ?_
  refine z_getC (N := 4) (v := 60) 8 1 rfl f_8_22 rfl J rfl sg_37_1_2_1_0_1 jk_60 ?_
  refine x_iclt (tgt := 15) rfl rfl (ti_lt rfl jk_60 ⟨fun c2 => ?_, fun c2 => ?_⟩)
  ·
    rw [if_pos (by omega)] at D
    refine x_iconst (v := 0) rfl ki_0 ?_
    exact jX.sub jsb_n (ct_X8_isFull_r37d_200016 hD hQ  h J Sm D EV)
  ·
    rw [if_neg (by omega)] at D
    refine x_iconst (v := 1) rfl ki_1 ?_
    refine x_goto (tgt := 16) rfl rfl ?_
    exact jX.sub jsb_n (ct_X8_isFull_r37d_300016 hD hQ  h J Sm D EV)
