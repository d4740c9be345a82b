/-! the tail of spell: the SPELLINGS are copied -/
set_option maxRecDepth 100000 in
set_option maxHeartbeats 4000000 in
theorem sp_154 {Dy : jH → Prop} {h0 h1 : jH} {Q : Option Value → jH → Prop} {FP : jFp} {l1 g : Int32} (hD : jDw jps Dy) (e5 : ∀ h, Dy h → ∀ j, jiv h 135 j = jiv h1 135 j) (f2 : FP.contains (133, 0, 256) = true) (f3 : FP.contains (134, 0, 768) = true) (hl : 0 ≤ l1.toInt ∧ l1.toInt ≤ 15) (hg : 0 ≤ g.toInt ∧ g.toInt ≤ 8) {R : Int} (k125 : ∀ (l2 : Int32) (h : jH), 16 - l2.toInt < R → 0 ≤ l2.toInt ∧ l2.toInt ≤ 16 → jTl h1 h l1 g l2.toInt → jiv h 125 18 = g → jJ jSgM Dy h → jSm FP h0 h → jX m_X12_spell 6 0 0 125 [(0, .ref 125), (1, .int l1), (2, .int l2)] [] h 0 0 Q) : ∀ r : Nat, ∀ (l2 l3 : Int32) (h : jH), 3 - l3.toInt < (r : Int) → 0 ≤ l2.toInt ∧ l2.toInt ≤ 15 → 0 ≤ l3.toInt ∧ l3.toInt ≤ 3 → jTl h1 h l1 g (l2.toInt + 1) → jiv h 125 18 = g → 16 - l2.toInt ≤ R → jJ jSgM Dy h → jSm FP h0 h → jX m_X12_spell 6 0 0 154 [(0, .ref 125), (1, .int l1), (2, .int l2), (3, .int l3)] [] h 0 0 Q := by
  intro r
  induction r with
  | zero =>
    intro l2 l3 h hm y1 y2 T z2 m J Sm
    exfalso
    omega
  | succ r ih =>
    intro l2 l3 h hm y1 y2 T z2 m J Sm
    refine x_iloadn (x := l3) rfl rfl ?_
    refine x_aloadn (x := 125) rfl rfl ?_
    refine z_getR (N := 92) (b := 135) 12 19 rfl f_12_45 rfl J rfl 16019 ⟨rfl, rfl⟩ rfl ?_
    refine x_iloadn (x := l2) rfl rfl ?_
    refine z_iald (N := 16) rfl J rfl sg_135_0_16_1_0_1 rfl (by omega) (fun v1 qv1 ev1 => ?_)
    refine x_icge (tgt := 195) rfl rfl (ti_ge rfl rfl ⟨fun c2 => ?_, fun c2 => ?_⟩)
    ·
      refine z_iinc (x := l2) (lsx9 := fun v3 => [(2, .int v3), (0, .ref 125), (1, .int l1), (3, .int l3)]) rfl rfl rfl jko_1 (by omega) rfl (fun _ => rfl) (fun v3 ev3 => ?_)
      refine x_goto (tgt := 125) rfl rfl ?_
      exact jX.sub (jsb_c rfl (jsb_c rfl (jsb_c rfl jsb_n))) (k125 v3 h (by omega) (jr_of rfl (by omega)) (by rw [ev3]; exact T) z2 J Sm)
    ·
      refine x_aloadn (x := 125) rfl rfl ?_
      refine z_getR (N := 92) (b := 134) 12 17 rfl f_12_42 rfl J rfl 16017 ⟨rfl, rfl⟩ rfl ?_
      refine x_bipush (v := 48) rfl kb_48 ?_
      refine x_iloadn (x := l1) rfl rfl ?_
      refine z_imul rfl jk_48 rfl (by omega) (fun v4 ev4 => ?_)
      refine x_iconst (v := 3) rfl ki_3 ?_
      refine x_iloadn (x := l2) rfl rfl ?_
      refine z_imul rfl jk_3 rfl (by omega) (fun v5 ev5 => ?_)
      refine z_iadd rfl rfl rfl (by omega) (fun v6 ev6 => ?_)
      refine x_iloadn (x := l3) rfl rfl ?_
      refine z_iadd rfl rfl rfl (by omega) (fun v7 ev7 => ?_)
      refine x_aloadn (x := 125) rfl rfl ?_
      refine z_getR (N := 92) (b := 136) 12 20 rfl f_12_48 rfl J rfl 16020 ⟨rfl, rfl⟩ rfl ?_
      refine x_iconst (v := 3) rfl ki_3 ?_
      refine x_iloadn (x := l2) rfl rfl ?_
      refine z_imul rfl jk_3 rfl (by omega) (fun v8 ev8 => ?_)
      refine x_iloadn (x := l3) rfl rfl ?_
      refine z_iadd rfl rfl rfl (by omega) (fun v9 ev9 => ?_)
      refine z_iald (N := 48) rfl J rfl sg_136_0_48_1_0_1 rfl (by omega) (fun v10 qv10 ev10 => ?_)
      refine zw_iast (N := 768) (l := 0) (u := 768) (w := v10.toInt) rfl hD J Sm rfl rfl rfl rfl (by omega) rfl (wr_134 (fun q1 q2 q3 q4 => by omega)) f3 (fun h w11 J Sm => ?_)
      refine z_iinc (x := l3) (lsx9 := fun v12 => [(3, .int v12), (0, .ref 125), (1, .int l1), (2, .int l2)]) rfl rfl rfl jko_1 (by omega) rfl (fun _ => rfl) (fun v12 ev12 => ?_)
      refine x_goto (tgt := 154) rfl rfl ?_
      exact jX.sub (jsb_c rfl (jsb_c rfl (jsb_c rfl (jsb_c rfl jsb_n)))) (ih l2 v12 h (by omega) (jr_of rfl (by omega)) (jr_of rfl (by omega)) (jTl_m w11 T) (jmo w11 rfl z2) (by omega) J Sm)
set_option maxRecDepth 100000 in
set_option maxHeartbeats 4000000 in
theorem sp_125 {Dy : jH → Prop} {h0 h1 : jH} {Q : Option Value → jH → Prop} {FP : jFp} {l1 g : Int32} (hD : jDw jps Dy) (e5 : ∀ h, Dy h → ∀ j, jiv h 135 j = jiv h1 135 j) (f2 : FP.contains (133, 0, 256) = true) (f3 : FP.contains (134, 0, 768) = true) (hl : 0 ≤ l1.toInt ∧ l1.toInt ≤ 15) (hg : 0 ≤ g.toInt ∧ g.toInt ≤ 8) (hK : ∀ (l2 : Int32) (h : jH), 2 * g.toInt ≤ l2.toInt → jTl h1 h l1 g l2.toInt → jiv h 125 18 = g → jJ jSgM Dy h → jSm FP h0 h → jX m_X12_spell 6 0 0 201 [(0, .ref 125), (1, .int l1), (2, .int l2)] [] h 0 0 Q) : ∀ r : Nat, ∀ (l2 : Int32) (h : jH), 16 - l2.toInt < (r : Int) → 0 ≤ l2.toInt ∧ l2.toInt ≤ 16 → jTl h1 h l1 g l2.toInt → jiv h 125 18 = g → jJ jSgM Dy h → jSm FP h0 h → jX m_X12_spell 6 0 0 125 [(0, .ref 125), (1, .int l1), (2, .int l2)] [] h 0 0 Q := by
  intro r
  induction r with
  | zero =>
    intro l2 h hm y1 T z2 J Sm
    exfalso
    omega
  | succ r ih =>
    intro l2 h hm y1 T z2 J Sm
    refine x_iloadn (x := l2) rfl rfl ?_
    refine x_iconst (v := 2) rfl ki_2 ?_
    refine x_aloadn (x := 125) rfl rfl ?_
    refine z_getM (N := 92) (v := g) 12 18 rfl f_12_302 rfl J rfl z2 ?_
    refine z_imul rfl jk_2 rfl (by omega) (fun v1 ev1 => ?_)
    refine x_icge (tgt := 201) rfl rfl (ti_ge rfl rfl ⟨fun c2 => ?_, fun c2 => ?_⟩)
    ·
      exact hK l2 h (by omega) T z2 J Sm
    ·
      refine x_aloadn (x := 125) rfl rfl ?_
      refine z_getR (N := 92) (b := 133) 12 16 rfl f_12_39 rfl J rfl 16016 ⟨rfl, rfl⟩ rfl ?_
      refine x_bipush (v := 16) rfl kb_16 ?_
      refine x_iloadn (x := l1) rfl rfl ?_
      refine z_imul rfl jk_16 rfl (by omega) (fun v5 ev5 => ?_)
      refine x_iloadn (x := l2) rfl rfl ?_
      refine z_iadd rfl rfl rfl (by omega) (fun v6 ev6 => ?_)
      refine x_aloadn (x := 125) rfl rfl ?_
      refine z_getR (N := 92) (b := 135) 12 19 rfl f_12_45 rfl J rfl 16019 ⟨rfl, rfl⟩ rfl ?_
      refine x_iloadn (x := l2) rfl rfl ?_
      refine z_iald (N := 16) rfl J rfl sg_135_0_16_1_0_1 rfl (by omega) (fun v7 qv7 ev7 => ?_)
      have e := e5 h J.2.2
      refine zw_iast (N := 256) (l := 0) (u := 256) (w := v7.toInt) rfl hD J Sm rfl rfl rfl rfl (by omega) rfl (wr_133 (fun q1 q2 q3 q4 => by omega)) f2 (fun h w8 J Sm => ?_)
      refine x_iconst (v := 0) rfl ki_0 ?_
      refine x_istoren (lsx9 := [(3, .int 0), (0, .ref 125), (1, .int l1), (2, .int l2)]) rfl rfl rfl ?_
      exact jX.sub (jsb_c rfl (jsb_c rfl (jsb_c rfl (jsb_c rfl jsb_n)))) (sp_154 hD e5 f2 f3 hl hg ih 4 l2 0 h (by have := jk_0; omega) (jr_of rfl (by omega)) (jr_of jk_0 (by omega)) (jTl_s (k := l2) T hl.1 (by omega) (by omega) e qv7 w8) (jmo w8 rfl z2) (by omega) J Sm)
set_option maxRecDepth 100000 in
set_option maxHeartbeats 4000000 in
theorem sp_tail {Dy : jH → Prop} {h0 h : jH} {Q : Option Value → jH → Prop} {FP : jFp} {l1 g : Int32} (hD : jDk Dy) (J : jJ jSgM Dy h) (Sm : jSm FP h0 h) (f1 : FP.contains (132, 0, 16) = true) (f2 : FP.contains (133, 0, 256) = true) (f3 : FP.contains (134, 0, 768) = true) (f4 : jfs fp_X12_told_r125 FP = true) (hl : 0 ≤ l1.toInt ∧ l1.toInt ≤ 15) (hg : 0 ≤ g.toInt ∧ g.toInt ≤ 8) (qg : jiv h 125 18 = g) (So : ∀ p : Nat, (p : Int) < g.toInt → 1 ≤ (jiv h 135 (2 * p)).toInt) (hQ : ∀ (v : Int32) hx9, jJ jSgM Dy hx9 → jSm FP h0 hx9 → Q (some (.int v)) hx9) : jX m_X12_spell 6 0 0 113 [(0, .ref 125), (1, .int l1)] [] h 0 0 Q := by
  have hW := jWk_d (p := jps) (h1 := h)
  have J0 := J
  have JW := jWk_in (p := jps) J
  refine x_aloadn (x := 125) rfl rfl ?_
  refine z_getR (N := 92) (b := 132) 12 15 rfl f_12_36 rfl JW rfl 16015 ⟨rfl, rfl⟩ rfl ?_
  refine x_iloadn (x := l1) rfl rfl ?_
  refine x_aloadn (x := 125) rfl rfl ?_
  refine z_getM (N := 92) (v := g) 12 18 rfl f_12_302 rfl JW rfl qg ?_
  refine zw_iast (N := 16) (l := 0) (u := 16) (w := g.toInt) rfl hW JW Sm rfl rfl rfl rfl (by omega) rfl (wr_132 (fun q1 q2 q3 q4 => by omega)) f1 (fun h2 w1 J2 Sm2 => ?_)
  refine x_iconst (v := 0) rfl ki_0 ?_
  refine x_istoren (lsx9 := [(2, .int 0), (0, .ref 125), (1, .int l1)]) rfl rfl rfl ?_
  refine jX.sub (jsb_c rfl (jsb_c rfl (jsb_c rfl jsb_n))) (sp_125 (h1 := h) hW (fun hx9 w j => w.2.2.2.1 135 j rfl) f2 f3 hl hg (fun l2 h3 c T z J3 S3 => ?_) 17 0 h2 (by have := jk_0; omega) (jr_of jk_0 (by omega)) (by rw [jk_0]; exact jTl_0 w1) (jmo w1 rfl qg) J2 Sm2)
  have B := jTl_B (hD.2.2.2.1 h J0.2.2) J3.2.2 (by omega) T c So
  have J := jWk_back hD J0 jps_hi rfl J3 B
  refine x_aloadn (x := 125) rfl rfl ?_
  refine x_aloadn (x := 125) rfl rfl ?_
  refine z_getM (N := 92) (v := g) 12 18 rfl f_12_302 rfl J rfl z ?_
  refine x_inv (N := m_X12_told) (As := [.int g]) (b := 125) (st := []) (dx9 := 1) (mc := 0) (ms := 0) (host := "") 12 rfl t_X12_told ⟨Or.inl q_12_197, i_X12_told.1, i_X12_told.2⟩ ⟨by decide, rfl⟩ (congrArg Prod.fst (J.1.1 125 (12, 92) rfl)) rfl (by decide) rfl rfl ⟨by decide, by decide⟩ (sf_X12_told_r125 hD J (fun v4 h J S4 => ?_))
  have Sm := jSm_tr f4 S3 S4
  show jX m_X12_spell 6 0 0 209 [(0, .ref 125), (1, .int l1), (2, .int l2)] [.int v4] _ 0 0 _
  refine x_iret rfl rfl ?_
  exact hQ _ _ J Sm
