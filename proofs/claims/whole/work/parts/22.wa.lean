/-! tails with meanings -/
theorem spS_s {A k n : Nat} {T V V0 : jW} (X : V = spL A k T n (vu (spS A T k V0) 133 (16 * A + k) (T.1 135 k))) (e : (T.1 135 k).toNat = n) : V = spS A T (k + 1) V0 := by
  rw [X, ← e]
  rfl
theorem spL_s {A q n i : Nat} {T V0 : jW} {h hx9 : jH} {x : Int32} (X : vw h = spL A q T n V0) (w : hx9 = jsi h 134 i x) (hi : i = 48 * A + 3 * q + n) (hx : T.1 136 (3 * q + n) = x.toInt) : vw hx9 = spL A q T (n + 1) V0 := by
  rw [← vwf w rfl, X, hi, ← hx]
  rfl
set_option maxRecDepth 100000 in
set_option maxHeartbeats 4000000 in
theorem sp_154D {Dy : jH → Prop} {h0 h1 : jH} {Q : Option Value → jH → Prop} {FP : jFp} {l1 g : Int32} (hD : jDw jps Dy) (e5 : ∀ h, Dy h → ∀ j, jiv h 135 j = jiv h1 135 j) (f2 : FP.contains (133, 0, 256) = true) (f3 : FP.contains (134, 0, 768) = true) (hl : 0 ≤ l1.toInt ∧ l1.toInt ≤ 15) (hg : 0 ≤ g.toInt ∧ g.toInt ≤ 8) {A : Nat} {V0 : jW} (hA : l1.toNatClampNeg = A) (e6 : ∀ h, Dy h → ∀ j, jiv h 136 j = jiv h1 136 j) {R : Int} (k125 : ∀ (l2 : Int32) (h : jH), 16 - l2.toInt < R → 0 ≤ l2.toInt ∧ l2.toInt ≤ 16 → jTl h1 h l1 g l2.toInt → jiv h 125 18 = g → jJ jSgM Dy h → jSm FP h0 h → vw h = spS A (vw h1) l2.toNatClampNeg V0 → l2.toInt ≤ 2 * g.toInt → jX m_X12_spell 6 0 0 125 [(0, .ref 125), (1, .int l1), (2, .int l2)] [] h 0 0 Q) : ∀ r : Nat, ∀ (l2 l3 : Int32) (h : jH), 3 - l3.toInt < (r : Int) → 0 ≤ l2.toInt ∧ l2.toInt ≤ 15 → 0 ≤ l3.toInt ∧ l3.toInt ≤ 3 → jTl h1 h l1 g (l2.toInt + 1) → jiv h 125 18 = g → 16 - l2.toInt ≤ R → jJ jSgM Dy h → jSm FP h0 h → vw h = spL A l2.toNatClampNeg (vw h1) l3.toNatClampNeg (vu (spS A (vw h1) l2.toNatClampNeg V0) 133 (16 * A + l2.toNatClampNeg) ((vw h1).1 135 l2.toNatClampNeg)) → l3.toInt ≤ (jiv h1 135 l2.toNatClampNeg).toInt → l2.toInt < 2 * g.toInt → jX m_X12_spell 6 0 0 154 [(0, .ref 125), (1, .int l1), (2, .int l2), (3, .int l3)] [] h 0 0 Q := by
  intro r
  induction r with
  | zero =>
    intro l2 l3 h hm y1 y2 T z2 m J Sm X y3 y4
    exfalso
    omega
  | succ r ih =>
    intro l2 l3 h hm y1 y2 T z2 m J Sm X y3 y4
    refine x_iloadn (x := l3) rfl rfl ?_
    refine x_aloadn (x := 125) rfl rfl ?_
    refine z_getR (N := 92) (b := 135) 12 19 rfl f_12_45 rfl J rfl 16019 ⟨rfl, rfl⟩ rfl ?_
    refine x_iloadn (x := l2) rfl rfl ?_
    refine z_iald (N := 16) rfl J rfl sg_135_0_16_1_0_1 rfl (by omega) (fun v1 qv1 ev1 => ?_)
    have kl2 := jcl_of y1.1
    have kl3 := jcl_of y2.1
    have kl1 := jcl_of hl.1
    have e5h := e5 h J.2.2
    have e6h := e6 h J.2.2
    have cq : jiv h1 135 l2.toNatClampNeg = v1 := (e5h _).symm.trans qv1
    have y3q : l3.toInt ≤ v1.toInt := by rw [cq] at y3; exact y3
    refine x_icge (tgt := 195) rfl rfl (ti_ge rfl rfl ⟨fun c2 => ?_, fun c2 => ?_⟩)
    ·
      have cc : l3.toNatClampNeg = ((vw h1).1 135 l2.toNatClampNeg).toNat := by
        rw [show (vw h1).1 135 l2.toNatClampNeg = v1.toInt from congrArg Int32.toInt cq]
        omega
      refine z_iinc (x := l2) (lsx9 := fun v3 => [(2, .int v3), (0, .ref 125), (1, .int l1), (3, .int l3)]) rfl rfl rfl jko_1 (by omega) rfl (fun _ => rfl) (fun v3 ev3 => ?_)
      refine x_goto (tgt := 125) rfl rfl ?_
      exact jX.sub (jsb_c rfl (jsb_c rfl (jsb_c rfl jsb_n))) (k125 v3 h (by omega) (jr_of rfl (by omega)) (by rw [ev3]; exact T) z2 J Sm (by rw [jcl_s (v := v3) (l := l2) ⟨ev3, y1.1⟩]; exact spS_s X cc.symm) (by omega))
    ·
      refine x_aloadn (x := 125) rfl rfl ?_
      refine z_getR (N := 92) (b := 134) 12 17 rfl f_12_42 rfl J rfl 16017 ⟨rfl, rfl⟩ rfl ?_
      refine x_bipush (v := 48) rfl kb_48 ?_
      refine x_iloadn (x := l1) rfl rfl ?_
      refine z_imul rfl jk_48 rfl (by omega) (fun v4 ev4 => ?_)
      refine x_iconst (v := 3) rfl ki_3 ?_
      refine x_iloadn (x := l2) rfl rfl ?_
      refine z_imul rfl jk_3 rfl (by omega) (fun v5 ev5 => ?_)
      refine z_iadd rfl rfl rfl (by omega) (fun v6 ev6 => ?_)
      refine x_iloadn (x := l3) rfl rfl ?_
      refine z_iadd rfl rfl rfl (by omega) (fun v7 ev7 => ?_)
      refine x_aloadn (x := 125) rfl rfl ?_
      refine z_getR (N := 92) (b := 136) 12 20 rfl f_12_48 rfl J rfl 16020 ⟨rfl, rfl⟩ rfl ?_
      refine x_iconst (v := 3) rfl ki_3 ?_
      refine x_iloadn (x := l2) rfl rfl ?_
      refine z_imul rfl jk_3 rfl (by omega) (fun v8 ev8 => ?_)
      refine x_iloadn (x := l3) rfl rfl ?_
      refine z_iadd rfl rfl rfl (by omega) (fun v9 ev9 => ?_)
      refine z_iald (N := 48) rfl J rfl sg_136_0_48_1_0_1 rfl (by omega) (fun v10 qv10 ev10 => ?_)
      refine zw_iast (N := 768) (l := 0) (u := 768) (w := v10.toInt) rfl hD J Sm rfl rfl rfl rfl (by omega) rfl (wr_134 (fun q1 q2 q3 q4 => by omega)) f3 (fun h w11 J Sm => ?_)
      refine z_iinc (x := l3) (lsx9 := fun v12 => [(3, .int v12), (0, .ref 125), (1, .int l1), (2, .int l2)]) rfl rfl rfl jko_1 (by omega) rfl (fun _ => rfl) (fun v12 ev12 => ?_)
      refine x_goto (tgt := 154) rfl rfl ?_
      exact jX.sub (jsb_c rfl (jsb_c rfl (jsb_c rfl (jsb_c rfl jsb_n)))) (ih l2 v12 h (by omega) (jr_of rfl (by omega)) (jr_of rfl (by omega)) (jTl_m w11 T) (jmo w11 rfl z2) (by omega) J Sm (by rw [jcl_s (v := v12) (l := l3) ⟨ev12, y2.1⟩]; exact spL_s X w11 (by have := jcl_of (d := v7) (by omega); omega) (by
        have k9 := jcl_of (d := v9) (by omega)
        rw [show 3 * l2.toNatClampNeg + l3.toNatClampNeg = v9.toNatClampNeg from by omega]
        exact congrArg Int32.toInt ((e6h _).symm.trans qv10))) (by rw [cq]; omega) y4)
set_option maxRecDepth 100000 in
set_option maxHeartbeats 4000000 in
theorem sp_125D {Dy : jH → Prop} {h0 h1 : jH} {Q : Option Value → jH → Prop} {FP : jFp} {l1 g : Int32} (hD : jDw jps Dy) (e5 : ∀ h, Dy h → ∀ j, jiv h 135 j = jiv h1 135 j) (f2 : FP.contains (133, 0, 256) = true) (f3 : FP.contains (134, 0, 768) = true) (hl : 0 ≤ l1.toInt ∧ l1.toInt ≤ 15) (hg : 0 ≤ g.toInt ∧ g.toInt ≤ 8) {A : Nat} {V0 : jW} (hA : l1.toNatClampNeg = A) (e6 : ∀ h, Dy h → ∀ j, jiv h 136 j = jiv h1 136 j) (hK : ∀ (l2 : Int32) (h : jH), 2 * g.toInt ≤ l2.toInt → jTl h1 h l1 g l2.toInt → jiv h 125 18 = g → jJ jSgM Dy h → jSm FP h0 h → vw h = spS A (vw h1) l2.toNatClampNeg V0 → l2.toInt ≤ 2 * g.toInt → jX m_X12_spell 6 0 0 201 [(0, .ref 125), (1, .int l1), (2, .int l2)] [] h 0 0 Q) : ∀ r : Nat, ∀ (l2 : Int32) (h : jH), 16 - l2.toInt < (r : Int) → 0 ≤ l2.toInt ∧ l2.toInt ≤ 16 → jTl h1 h l1 g l2.toInt → jiv h 125 18 = g → jJ jSgM Dy h → jSm FP h0 h → vw h = spS A (vw h1) l2.toNatClampNeg V0 → l2.toInt ≤ 2 * g.toInt → jX m_X12_spell 6 0 0 125 [(0, .ref 125), (1, .int l1), (2, .int l2)] [] h 0 0 Q := by
  intro r
  induction r with
  | zero =>
    intro l2 h hm y1 T z2 J Sm X y3
    exfalso
    omega
  | succ r ih =>
    intro l2 h hm y1 T z2 J Sm X y3
    refine x_iloadn (x := l2) rfl rfl ?_
    refine x_iconst (v := 2) rfl ki_2 ?_
    refine x_aloadn (x := 125) rfl rfl ?_
    refine z_getM (N := 92) (v := g) 12 18 rfl f_12_302 rfl J rfl z2 ?_
    refine z_imul rfl jk_2 rfl (by omega) (fun v1 ev1 => ?_)
    refine x_icge (tgt := 201) rfl rfl (ti_ge rfl rfl ⟨fun c2 => ?_, fun c2 => ?_⟩)
    ·
      exact hK l2 h (by omega) T z2 J Sm X y3
    ·
      refine x_aloadn (x := 125) rfl rfl ?_
      refine z_getR (N := 92) (b := 133) 12 16 rfl f_12_39 rfl J rfl 16016 ⟨rfl, rfl⟩ rfl ?_
      refine x_bipush (v := 16) rfl kb_16 ?_
      refine x_iloadn (x := l1) rfl rfl ?_
      refine z_imul rfl jk_16 rfl (by omega) (fun v5 ev5 => ?_)
      refine x_iloadn (x := l2) rfl rfl ?_
      refine z_iadd rfl rfl rfl (by omega) (fun v6 ev6 => ?_)
      refine x_aloadn (x := 125) rfl rfl ?_
      refine z_getR (N := 92) (b := 135) 12 19 rfl f_12_45 rfl J rfl 16019 ⟨rfl, rfl⟩ rfl ?_
      refine x_iloadn (x := l2) rfl rfl ?_
      refine z_iald (N := 16) rfl J rfl sg_135_0_16_1_0_1 rfl (by omega) (fun v7 qv7 ev7 => ?_)
      have e := e5 h J.2.2
      refine zw_iast (N := 256) (l := 0) (u := 256) (w := v7.toInt) rfl hD J Sm rfl rfl rfl rfl (by omega) rfl (wr_133 (fun q1 q2 q3 q4 => by omega)) f2 (fun h w8 J Sm => ?_)
      refine x_iconst (v := 0) rfl ki_0 ?_
      refine x_istoren (lsx9 := [(3, .int 0), (0, .ref 125), (1, .int l1), (2, .int l2)]) rfl rfl rfl ?_
      exact jX.sub (jsb_c rfl (jsb_c rfl (jsb_c rfl (jsb_c rfl jsb_n)))) (sp_154D hD e5 f2 f3 hl hg hA e6 ih 4 l2 0 h (by have := jk_0; omega) (jr_of rfl (by omega)) (jr_of jk_0 (by omega)) (jTl_s (k := l2) T hl.1 (by omega) (by omega) e qv7 w8) (jmo w8 rfl z2) (by omega) J Sm (by
        rw [show (0 : Int32).toNatClampNeg = 0 from by decide]
        have kl1 := jcl_of hl.1
        have kl2 := jcl_of y1.1
        have k6 := jcl_of (d := v6) (by omega)
        have cq : jiv h1 135 l2.toNatClampNeg = v7 := (e _).symm.trans qv7
        rw [← vwf w8 rfl, X, show v6.toNatClampNeg = 16 * A + l2.toNatClampNeg from by omega, show (vw h1).1 135 l2.toNatClampNeg = v7.toInt from congrArg Int32.toInt cq]
        rfl) (by rw [(e _).symm.trans qv7]; have := jk_0; omega) (by omega))
set_option maxRecDepth 100000 in
set_option maxHeartbeats 4000000 in
theorem sp_tailD {Dy : jH → Prop} {h0 h : jH} {Q : Option Value → jH → Prop} {FP : jFp} {l1 g : Int32} (hD : jDk Dy) (J : jJ jSgM Dy h) (Sm : jSm FP h0 h) (f1 : FP.contains (132, 0, 16) = true) (f2 : FP.contains (133, 0, 256) = true) (f3 : FP.contains (134, 0, 768) = true) (f4 : jfs fp_X12_told_r125d FP = true) (hl : 0 ≤ l1.toInt ∧ l1.toInt ≤ 15) (hg : 0 ≤ g.toInt ∧ g.toInt ≤ 8) (qg : jiv h 125 18 = g) (So : ∀ p : Nat, (p : Int) < g.toInt → 1 ≤ (jiv h 135 (2 * p)).toInt) {dr : Int × jW} (D : d_spt l1.toInt (vw h) = dr) (hQ : ∀ (v : Int32) hx9, jJ jSgM Dy hx9 → jSm FP h0 hx9 → dr.1 = v.toInt → dr.2 = vw hx9 → Q (some (.int v)) hx9) : jX m_X12_spell 6 0 0 113 [(0, .ref 125), (1, .int l1)] [] h 0 0 Q := by
  have hW := jWk_d (p := jps) (h1 := h)
  have J0 := J
  have JW := jWk_in (p := jps) J
  refine x_aloadn (x := 125) rfl rfl ?_
  refine z_getR (N := 92) (b := 132) 12 15 rfl f_12_36 rfl JW rfl 16015 ⟨rfl, rfl⟩ rfl ?_
  refine x_iloadn (x := l1) rfl rfl ?_
  refine x_aloadn (x := 125) rfl rfl ?_
  refine z_getM (N := 92) (v := g) 12 18 rfl f_12_302 rfl JW rfl qg ?_
  refine zw_iast (N := 16) (l := 0) (u := 16) (w := g.toInt) rfl hW JW Sm rfl rfl rfl rfl (by omega) rfl (wr_132 (fun q1 q2 q3 q4 => by omega)) f1 (fun h2 w1 J2 Sm2 => ?_)
  refine x_iconst (v := 0) rfl ki_0 ?_
  refine x_istoren (lsx9 := [(2, .int 0), (0, .ref 125), (1, .int l1)]) rfl rfl rfl ?_
  have D : d_X12_told_r125d g.toInt (spS l1.toNatClampNeg (vw h) (2 * g.toNatClampNeg) (vw h2)) = dr := by
    unfold d_spt at D
    have kl1 := jcl_of hl.1
    have kg := jcl_of hg.1
    rw [show (vw h).1 125 18 = g.toInt from vrf qg, show l1.toInt.toNat = l1.toNatClampNeg from by omega, show g.toInt.toNat = g.toNatClampNeg from by omega, vwf w1 rfl] at D
    exact D
  refine jX.sub (jsb_c rfl (jsb_c rfl (jsb_c rfl jsb_n))) (sp_125D (h1 := h) (V0 := vw h2) hW (fun hx9 w j => w.2.2.2.1 135 j rfl) f2 f3 hl hg rfl (fun hx9 w j => w.2.2.2.1 136 j rfl) (fun l2 h3 c T z J3 S3 X y3 => ?_) 17 0 h2 (by have := jk_0; omega) (jr_of jk_0 (by omega)) (by rw [jk_0]; exact jTl_0 w1) (jmo w1 rfl qg) J2 Sm2 (by rw [show (0 : Int32).toNatClampNeg = 0 from by decide]; rfl) (by have := jk_0; omega))
  have kg := jcl_of hg.1
  have kl2 := jcl_of (d := l2) (by omega)
  rw [show 2 * g.toNatClampNeg = l2.toNatClampNeg from by omega, ← X] at D
  have B := jTl_B (hD.2.2.2.1 h J0.2.2) J3.2.2 (by omega) T c So
  have J := jWk_back hD J0 jps_hi rfl J3 B
  refine x_aloadn (x := 125) rfl rfl ?_
  refine x_aloadn (x := 125) rfl rfl ?_
  refine z_getM (N := 92) (v := g) 12 18 rfl f_12_302 rfl J rfl z ?_
  refine x_inv (N := m_X12_told) (As := [.int g]) (b := 125) (st := []) (dx9 := 1) (mc := 0) (ms := 0) (host := "") 12 rfl t_X12_told ⟨Or.inl q_12_197, i_X12_told.1, i_X12_told.2⟩ ⟨by decide, rfl⟩ (congrArg Prod.fst (J.1.1 125 (12, 92) rfl)) rfl (by decide) rfl rfl ⟨by decide, by decide⟩ (sf_X12_told_r125d hD J D (fun v4 h J S4 e1 e2 => ?_))
  have Sm := jSm_tr f4 S3 S4
  show jX m_X12_spell 6 0 0 209 [(0, .ref 125), (1, .int l1), (2, .int l2)] [.int v4] _ 0 0 _
  refine x_iret rfl rfl ?_
  exact hQ _ _ J Sm e1 e2
/-! the tail of text: what was read is copied into the row -/
set_option maxRecDepth 100000 in
theorem wr_126_18820 {m w : Int} (hr : 18820 ≤ m ∧ m < 46540) (h0 : ((18820 : Nat) : Int) ≤ m → m < ((46540 : Nat) : Int) → ((0 : Nat) : Int) ≤ (m - ((18820 : Nat) : Int)) % ((924 : Nat) : Int) → (m - ((18820 : Nat) : Int)) % ((924 : Nat) : Int) < ((1 : Nat) : Int) → 0 ≤ w ∧ w ≤ 1) (h1 : ((18820 : Nat) : Int) ≤ m → m < ((46540 : Nat) : Int) → ((1 : Nat) : Int) ≤ (m - ((18820 : Nat) : Int)) % ((924 : Nat) : Int) → (m - ((18820 : Nat) : Int)) % ((924 : Nat) : Int) < ((2 : Nat) : Int) → 0 ≤ w ∧ w ≤ 146399) (h2 : ((18820 : Nat) : Int) ≤ m → m < ((46540 : Nat) : Int) → ((2 : Nat) : Int) ≤ (m - ((18820 : Nat) : Int)) % ((924 : Nat) : Int) → (m - ((18820 : Nat) : Int)) % ((924 : Nat) : Int) < ((3 : Nat) : Int) → 0 ≤ w ∧ w ≤ 146399) (h3 : ((18820 : Nat) : Int) ≤ m → m < ((46540 : Nat) : Int) → ((3 : Nat) : Int) ≤ (m - ((18820 : Nat) : Int)) % ((924 : Nat) : Int) → (m - ((18820 : Nat) : Int)) % ((924 : Nat) : Int) < ((4 : Nat) : Int) → 0 ≤ w ∧ w ≤ 12) : jwr jSgM 126 m w := jw_of (L := [(126, 0, 1, 1, 0, 1, 0, 200), (126, 1, 2, 1, 0, 1, 0, 60), (126, 2, 3, 1, 0, 1, 0, 200), (126, 3, 4, 1, 0, 1, 0, 20), (126, 4, 5, 1, 0, 1, 0, 30), (126, 5, 6, 1, 0, 1, 0, 100), (126, 6, 7, 1, 0, 1, 0, 40), (126, 7, 8, 1, 0, 1, 0, 40), (126, 8, 9, 1, 0, 1, 0, 100), (126, 9, 10, 1, 0, 1, 0, 40), (126, 10, 11, 1, 0, 1, 0, 100), (126, 11, 12, 1, 0, 1, 0, 40), (126, 12, 13, 1, 0, 1, 0, 100), (126, 13, 14, 1, 0, 1, 0, 100), (126, 14, 15, 1, 0, 1, 0, 40), (126, 15, 16, 1, 0, 1, 0, 100), (126, 16, 17, 1, 0, 1, 0, 370), (126, 17, 18, 1, 0, 1, 0, 0), (126, 18, 19, 1, 0, 1, 0, 0), (126, 19, 20, 1, 0, 1, 0, 0), (126, 20, 18020, 90, 0, 1, 0, 5), (126, 20, 18020, 90, 1, 2, 0, 15), (126, 20, 18020, 90, 2, 3, 0, 146399), (126, 20, 18020, 90, 3, 4, 0, 146399), (126, 20, 18020, 90, 5, 6, 0, 1), (126, 20, 18020, 90, 6, 7, 0, 12), (126, 20, 18020, 90, 7, 8, 0, 1), (126, 20, 18020, 90, 8, 20, 0, 255), (126, 20, 18020, 90, 20, 21, 0, 12), (126, 20, 18020, 90, 21, 22, 0, 1), (126, 20, 18020, 90, 22, 34, 0, 255), (126, 20, 18020, 90, 34, 35, 0, 12), (126, 20, 18020, 90, 35, 36, 0, 1), (126, 20, 18020, 90, 36, 48, 0, 255), (126, 20, 18020, 90, 48, 49, 0, 12), (126, 20, 18020, 90, 49, 50, 0, 1), (126, 20, 18020, 90, 50, 62, 0, 255), (126, 20, 18020, 90, 62, 63, 0, 12), (126, 20, 18020, 90, 63, 64, 0, 1), (126, 20, 18020, 90, 64, 76, 0, 255), (126, 20, 18020, 90, 76, 77, 0, 12), (126, 20, 18020, 90, 77, 78, 0, 1), (126, 20, 18020, 90, 78, 90, 0, 255), (126, 18020, 18140, 2, 0, 1, 0, 599), (126, 18020, 18140, 2, 1, 2, 0, 599), (126, 18140, 18740, 3, 0, 1, 0, 599), (126, 18140, 18740, 3, 1, 2, 0, 599), (126, 18140, 18740, 3, 2, 3, 0, 146399), (126, 18740, 18820, 4, 0, 1, 0, 5), (126, 18740, 18820, 4, 1, 2, 0, 146399), (126, 18740, 18820, 4, 2, 3, 0, 146399), (126, 18740, 18820, 4, 3, 4, 0, 146399), (126, 18820, 46540, 924, 0, 1, 0, 1), (126, 18820, 46540, 924, 1, 2, 0, 146399), (126, 18820, 46540, 924, 2, 3, 0, 146399), (126, 18820, 46540, 924, 3, 4, 0, 12), (126, 46540, 47140, 6, 0, 1, 0, 599), (126, 46540, 47140, 6, 1, 2, 0, 4), (126, 46540, 47140, 6, 2, 3, 0, 11), (126, 46540, 47140, 6, 3, 4, 0, 146399), (126, 46540, 47140, 6, 4, 5, 0, 146399), (126, 46540, 47140, 6, 5, 6, 0, 146399), (126, 47140, 47260, 3, 0, 1, 0, 199), (126, 47140, 47260, 3, 1, 2, 0, 146399), (126, 47140, 47260, 3, 2, 3, 0, 146399), (126, 47260, 47660, 4, 0, 1, 0, 39), (126, 47260, 47660, 4, 1, 2, 0, 10000), (126, 47260, 47660, 4, 2, 3, 0, 146399), (126, 47260, 47660, 4, 3, 4, 0, 146399), (126, 47660, 47900, 6, 0, 1, 0, 39), (126, 47660, 47900, 6, 1, 2, 0, 39), (126, 47660, 47900, 6, 2, 3, 0, 99), (126, 47660, 47900, 6, 3, 4, 0, 100), (126, 47660, 47900, 6, 4, 5, 0, 146399), (126, 47660, 47900, 6, 5, 6, 0, 146399), (126, 47900, 48300, 4, 0, 1, 0, 39), (126, 47900, 48300, 4, 1, 2, (-1), 599), (126, 47900, 48300, 4, 2, 3, 0, 146399), (126, 47900, 48300, 4, 3, 4, 0, 146399), (126, 48300, 48460, 4, 0, 1, 0, 2), (126, 48300, 48460, 4, 1, 2, 0, 399), (126, 48300, 48460, 4, 2, 3, 0, 1000000), (126, 48300, 48460, 4, 3, 4, 0, 146399), (126, 48460, 48960, 5, 0, 1, 0, 39), (126, 48460, 48960, 5, 1, 2, 0, 39), (126, 48460, 48960, 5, 2, 3, 0, 1000000), (126, 48460, 48960, 5, 3, 4, 0, 146399), (126, 48460, 48960, 5, 4, 5, 0, 146399), (126, 48960, 49360, 4, 0, 1, 0, 3), (126, 48960, 49360, 4, 1, 2, 0, 399), (126, 48960, 49360, 4, 2, 3, (-1000000), 1000000), (126, 48960, 49360, 4, 3, 4, 0, 146399), (126, 49360, 49520, 4, 0, 1, 0, 3), (126, 49360, 49520, 4, 1, 2, 0, 399), (126, 49360, 49520, 4, 3, 4, 0, 146399), (126, 49520, 49920, 4, 0, 1, 0, 2), (126, 49520, 49920, 4, 1, 2, 0, 399), (126, 49520, 49920, 4, 2, 3, 0, 10000), (126, 49520, 49920, 4, 3, 4, 0, 146399), (126, 49920, 50660, 2, 0, 1, 0, 3), (126, 49920, 50660, 2, 1, 2, 0, 199)]) rfl (List.forall_mem_cons.mpr ⟨fun q1 q2 _ _ => by simp only at q1 q2; omega, List.forall_mem_cons.mpr ⟨fun q1 q2 _ _ => by simp only at q1 q2; omega, List.forall_mem_cons.mpr ⟨fun q1 q2 _ _ => by simp only at q1 q2; omega, List.forall_mem_cons.mpr ⟨fun q1 q2 _ _ => by simp only at q1 q2; omega, List.forall_mem_cons.mpr ⟨fun q1 q2 _ _ => by simp only at q1 q2; omega, List.forall_mem_cons.mpr ⟨fun q1 q2 _ _ => by simp only at q1 q2; omega, List.forall_mem_cons.mpr ⟨fun q1 q2 _ _ => by simp only at q1 q2; omega, List.forall_mem_cons.mpr ⟨fun q1 q2 _ _ => by simp only at q1 q2; omega, List.forall_mem_cons.mpr ⟨fun q1 q2 _ _ => by simp only at q1 q2; omega, List.forall_mem_cons.mpr ⟨fun q1 q2 _ _ => by simp only at q1 q2; omega, List.forall_mem_cons.mpr ⟨fun q1 q2 _ _ => by simp only at q1 q2; omega, List.forall_mem_cons.mpr ⟨fun q1 q2 _ _ => by simp only at q1 q2; omega, List.forall_mem_cons.mpr ⟨fun q1 q2 _ _ => by simp only at q1 q2; omega, List.forall_mem_cons.mpr ⟨fun q1 q2 _ _ => by simp only at q1 q2; omega, List.forall_mem_cons.mpr ⟨fun q1 q2 _ _ => by simp only at q1 q2; omega, List.forall_mem_cons.mpr ⟨fun q1 q2 _ _ => by simp only at q1 q2; omega, List.forall_mem_cons.mpr ⟨fun q1 q2 _ _ => by simp only at q1 q2; omega, List.forall_mem_cons.mpr ⟨fun q1 q2 _ _ => by simp only at q1 q2; omega, List.forall_mem_cons.mpr ⟨fun q1 q2 _ _ => by simp only at q1 q2; omega, List.forall_mem_cons.mpr ⟨fun q1 q2 _ _ => by simp only at q1 q2; omega, List.forall_mem_cons.mpr ⟨fun q1 q2 _ _ => by simp only at q1 q2; omega, List.forall_mem_cons.mpr ⟨fun q1 q2 _ _ => by simp only at q1 q2; omega, List.forall_mem_cons.mpr ⟨fun q1 q2 _ _ => by simp only at q1 q2; omega, List.forall_mem_cons.mpr ⟨fun q1 q2 _ _ => by simp only at q1 q2; omega, List.forall_mem_cons.mpr ⟨fun q1 q2 _ _ => by simp only at q1 q2; omega, List.forall_mem_cons.mpr ⟨fun q1 q2 _ _ => by simp only at q1 q2; omega, List.forall_mem_cons.mpr ⟨fun q1 q2 _ _ => by simp only at q1 q2; omega, List.forall_mem_cons.mpr ⟨fun q1 q2 _ _ => by simp only at q1 q2; omega, List.forall_mem_cons.mpr ⟨fun q1 q2 _ _ => by simp only at q1 q2; omega, List.forall_mem_cons.mpr ⟨fun q1 q2 _ _ => by simp only at q1 q2; omega, List.forall_mem_cons.mpr ⟨fun q1 q2 _ _ => by simp only at q1 q2; omega, List.forall_mem_cons.mpr ⟨fun q1 q2 _ _ => by simp only at q1 q2; omega, List.forall_mem_cons.mpr ⟨fun q1 q2 _ _ => by simp only at q1 q2; omega, List.forall_mem_cons.mpr ⟨fun q1 q2 _ _ => by simp only at q1 q2; omega, List.forall_mem_cons.mpr ⟨fun q1 q2 _ _ => by simp only at q1 q2; omega, List.forall_mem_cons.mpr ⟨fun q1 q2 _ _ => by simp only at q1 q2; omega, List.forall_mem_cons.mpr ⟨fun q1 q2 _ _ => by simp only at q1 q2; omega, List.forall_mem_cons.mpr ⟨fun q1 q2 _ _ => by simp only at q1 q2; omega, List.forall_mem_cons.mpr ⟨fun q1 q2 _ _ => by simp only at q1 q2; omega, List.forall_mem_cons.mpr ⟨fun q1 q2 _ _ => by simp only at q1 q2; omega, List.forall_mem_cons.mpr ⟨fun q1 q2 _ _ => by simp only at q1 q2; omega, List.forall_mem_cons.mpr ⟨fun q1 q2 _ _ => by simp only at q1 q2; omega, List.forall_mem_cons.mpr ⟨fun q1 q2 _ _ => by simp only at q1 q2; omega, List.forall_mem_cons.mpr ⟨fun q1 q2 _ _ => by simp only at q1 q2; omega, List.forall_mem_cons.mpr ⟨fun q1 q2 _ _ => by simp only at q1 q2; omega, List.forall_mem_cons.mpr ⟨fun q1 q2 _ _ => by simp only at q1 q2; omega, List.forall_mem_cons.mpr ⟨fun q1 q2 _ _ => by simp only at q1 q2; omega, List.forall_mem_cons.mpr ⟨fun q1 q2 _ _ => by simp only at q1 q2; omega, List.forall_mem_cons.mpr ⟨fun q1 q2 _ _ => by simp only at q1 q2; omega, List.forall_mem_cons.mpr ⟨fun q1 q2 _ _ => by simp only at q1 q2; omega, List.forall_mem_cons.mpr ⟨fun q1 q2 _ _ => by simp only at q1 q2; omega, List.forall_mem_cons.mpr ⟨fun q1 q2 _ _ => by simp only at q1 q2; omega, List.forall_mem_cons.mpr ⟨h0, List.forall_mem_cons.mpr ⟨h1, List.forall_mem_cons.mpr ⟨h2, List.forall_mem_cons.mpr ⟨h3, List.forall_mem_cons.mpr ⟨fun q1 q2 _ _ => by simp only at q1 q2; omega, List.forall_mem_cons.mpr ⟨fun q1 q2 _ _ => by simp only at q1 q2; omega, List.forall_mem_cons.mpr ⟨fun q1 q2 _ _ => by simp only at q1 q2; omega, List.forall_mem_cons.mpr ⟨fun q1 q2 _ _ => by simp only at q1 q2; omega, List.forall_mem_cons.mpr ⟨fun q1 q2 _ _ => by simp only at q1 q2; omega, List.forall_mem_cons.mpr ⟨fun q1 q2 _ _ => by simp only at q1 q2; omega, List.forall_mem_cons.mpr ⟨fun q1 q2 _ _ => by simp only at q1 q2; omega, List.forall_mem_cons.mpr ⟨fun q1 q2 _ _ => by simp only at q1 q2; omega, List.forall_mem_cons.mpr ⟨fun q1 q2 _ _ => by simp only at q1 q2; omega, List.forall_mem_cons.mpr ⟨fun q1 q2 _ _ => by simp only at q1 q2; omega, List.forall_mem_cons.mpr ⟨fun q1 q2 _ _ => by simp only at q1 q2; omega, List.forall_mem_cons.mpr ⟨fun q1 q2 _ _ => by simp only at q1 q2; omega, List.forall_mem_cons.mpr ⟨fun q1 q2 _ _ => by simp only at q1 q2; omega, List.forall_mem_cons.mpr ⟨fun q1 q2 _ _ => by simp only at q1 q2; omega, List.forall_mem_cons.mpr ⟨fun q1 q2 _ _ => by simp only at q1 q2; omega, List.forall_mem_cons.mpr ⟨fun q1 q2 _ _ => by simp only at q1 q2; omega, List.forall_mem_cons.mpr ⟨fun q1 q2 _ _ => by simp only at q1 q2; omega, List.forall_mem_cons.mpr ⟨fun q1 q2 _ _ => by simp only at q1 q2; omega, List.forall_mem_cons.mpr ⟨fun q1 q2 _ _ => by simp only at q1 q2; omega, List.forall_mem_cons.mpr ⟨fun q1 q2 _ _ => by simp only at q1 q2; omega, List.forall_mem_cons.mpr ⟨fun q1 q2 _ _ => by simp only at q1 q2; omega, List.forall_mem_cons.mpr ⟨fun q1 q2 _ _ => by simp only at q1 q2; omega, List.forall_mem_cons.mpr ⟨fun q1 q2 _ _ => by simp only at q1 q2; omega, List.forall_mem_cons.mpr ⟨fun q1 q2 _ _ => by simp only at q1 q2; omega, List.forall_mem_cons.mpr ⟨fun q1 q2 _ _ => by simp only at q1 q2; omega, List.forall_mem_cons.mpr ⟨fun q1 q2 _ _ => by simp only at q1 q2; omega, List.forall_mem_cons.mpr ⟨fun q1 q2 _ _ => by simp only at q1 q2; omega, List.forall_mem_cons.mpr ⟨fun q1 q2 _ _ => by simp only at q1 q2; omega, List.forall_mem_cons.mpr ⟨fun q1 q2 _ _ => by simp only at q1 q2; omega, List.forall_mem_cons.mpr ⟨fun q1 q2 _ _ => by simp only at q1 q2; omega, List.forall_mem_cons.mpr ⟨fun q1 q2 _ _ => by simp only at q1 q2; omega, List.forall_mem_cons.mpr ⟨fun q1 q2 _ _ => by simp only at q1 q2; omega, List.forall_mem_cons.mpr ⟨fun q1 q2 _ _ => by simp only at q1 q2; omega, List.forall_mem_cons.mpr ⟨fun q1 q2 _ _ => by simp only at q1 q2; omega, List.forall_mem_cons.mpr ⟨fun q1 q2 _ _ => by simp only at q1 q2; omega, List.forall_mem_cons.mpr ⟨fun q1 q2 _ _ => by simp only at q1 q2; omega, List.forall_mem_cons.mpr ⟨fun q1 q2 _ _ => by simp only at q1 q2; omega, List.forall_mem_cons.mpr ⟨fun q1 q2 _ _ => by simp only at q1 q2; omega, List.forall_mem_cons.mpr ⟨fun q1 q2 _ _ => by simp only at q1 q2; omega, List.forall_mem_cons.mpr ⟨fun q1 q2 _ _ => by simp only at q1 q2; omega, List.forall_mem_cons.mpr ⟨fun q1 q2 _ _ => by simp only at q1 q2; omega, List.forall_mem_cons.mpr ⟨fun q1 q2 _ _ => by simp only at q1 q2; omega, List.forall_mem_cons.mpr ⟨fun q1 q2 _ _ => by simp only at q1 q2; omega, List.forall_mem_cons.mpr ⟨fun q1 q2 _ _ => by simp only at q1 q2; omega, List.forall_mem_cons.mpr ⟨fun q1 q2 _ _ => by simp only at q1 q2; omega, fun _ h => absurd h List.not_mem_nil⟩⟩⟩⟩⟩⟩⟩⟩⟩⟩⟩⟩⟩⟩⟩⟩⟩⟩⟩⟩⟩⟩⟩⟩⟩⟩⟩⟩⟩⟩⟩⟩⟩⟩⟩⟩⟩⟩⟩⟩⟩⟩⟩⟩⟩⟩⟩⟩⟩⟩⟩⟩⟩⟩⟩⟩⟩⟩⟩⟩⟩⟩⟩⟩⟩⟩⟩⟩⟩⟩⟩⟩⟩⟩⟩⟩⟩⟩⟩⟩⟩⟩⟩⟩⟩⟩⟩⟩⟩⟩⟩⟩⟩⟩⟩⟩⟩⟩⟩⟩⟩)
set_option maxRecDepth 100000 in
theorem wr_126_4 {m w : Int} (hr : 4 ≤ m ∧ m < 5) (h0 : ((4 : Nat) : Int) ≤ m → m < ((5 : Nat) : Int) → ((0 : Nat) : Int) ≤ (m - ((4 : Nat) : Int)) % ((1 : Nat) : Int) → (m - ((4 : Nat) : Int)) % ((1 : Nat) : Int) < ((1 : Nat) : Int) → 0 ≤ w ∧ w ≤ 30) : jwr jSgM 126 m w := jw_of (L := [(126, 0, 1, 1, 0, 1, 0, 200), (126, 1, 2, 1, 0, 1, 0, 60), (126, 2, 3, 1, 0, 1, 0, 200), (126, 3, 4, 1, 0, 1, 0, 20), (126, 4, 5, 1, 0, 1, 0, 30), (126, 5, 6, 1, 0, 1, 0, 100), (126, 6, 7, 1, 0, 1, 0, 40), (126, 7, 8, 1, 0, 1, 0, 40), (126, 8, 9, 1, 0, 1, 0, 100), (126, 9, 10, 1, 0, 1, 0, 40), (126, 10, 11, 1, 0, 1, 0, 100), (126, 11, 12, 1, 0, 1, 0, 40), (126, 12, 13, 1, 0, 1, 0, 100), (126, 13, 14, 1, 0, 1, 0, 100), (126, 14, 15, 1, 0, 1, 0, 40), (126, 15, 16, 1, 0, 1, 0, 100), (126, 16, 17, 1, 0, 1, 0, 370), (126, 17, 18, 1, 0, 1, 0, 0), (126, 18, 19, 1, 0, 1, 0, 0), (126, 19, 20, 1, 0, 1, 0, 0), (126, 20, 18020, 90, 0, 1, 0, 5), (126, 20, 18020, 90, 1, 2, 0, 15), (126, 20, 18020, 90, 2, 3, 0, 146399), (126, 20, 18020, 90, 3, 4, 0, 146399), (126, 20, 18020, 90, 5, 6, 0, 1), (126, 20, 18020, 90, 6, 7, 0, 12), (126, 20, 18020, 90, 7, 8, 0, 1), (126, 20, 18020, 90, 8, 20, 0, 255), (126, 20, 18020, 90, 20, 21, 0, 12), (126, 20, 18020, 90, 21, 22, 0, 1), (126, 20, 18020, 90, 22, 34, 0, 255), (126, 20, 18020, 90, 34, 35, 0, 12), (126, 20, 18020, 90, 35, 36, 0, 1), (126, 20, 18020, 90, 36, 48, 0, 255), (126, 20, 18020, 90, 48, 49, 0, 12), (126, 20, 18020, 90, 49, 50, 0, 1), (126, 20, 18020, 90, 50, 62, 0, 255), (126, 20, 18020, 90, 62, 63, 0, 12), (126, 20, 18020, 90, 63, 64, 0, 1), (126, 20, 18020, 90, 64, 76, 0, 255), (126, 20, 18020, 90, 76, 77, 0, 12), (126, 20, 18020, 90, 77, 78, 0, 1), (126, 20, 18020, 90, 78, 90, 0, 255), (126, 18020, 18140, 2, 0, 1, 0, 599), (126, 18020, 18140, 2, 1, 2, 0, 599), (126, 18140, 18740, 3, 0, 1, 0, 599), (126, 18140, 18740, 3, 1, 2, 0, 599), (126, 18140, 18740, 3, 2, 3, 0, 146399), (126, 18740, 18820, 4, 0, 1, 0, 5), (126, 18740, 18820, 4, 1, 2, 0, 146399), (126, 18740, 18820, 4, 2, 3, 0, 146399), (126, 18740, 18820, 4, 3, 4, 0, 146399), (126, 18820, 46540, 924, 0, 1, 0, 1), (126, 18820, 46540, 924, 1, 2, 0, 146399), (126, 18820, 46540, 924, 2, 3, 0, 146399), (126, 18820, 46540, 924, 3, 4, 0, 12), (126, 46540, 47140, 6, 0, 1, 0, 599), (126, 46540, 47140, 6, 1, 2, 0, 4), (126, 46540, 47140, 6, 2, 3, 0, 11), (126, 46540, 47140, 6, 3, 4, 0, 146399), (126, 46540, 47140, 6, 4, 5, 0, 146399), (126, 46540, 47140, 6, 5, 6, 0, 146399), (126, 47140, 47260, 3, 0, 1, 0, 199), (126, 47140, 47260, 3, 1, 2, 0, 146399), (126, 47140, 47260, 3, 2, 3, 0, 146399), (126, 47260, 47660, 4, 0, 1, 0, 39), (126, 47260, 47660, 4, 1, 2, 0, 10000), (126, 47260, 47660, 4, 2, 3, 0, 146399), (126, 47260, 47660, 4, 3, 4, 0, 146399), (126, 47660, 47900, 6, 0, 1, 0, 39), (126, 47660, 47900, 6, 1, 2, 0, 39), (126, 47660, 47900, 6, 2, 3, 0, 99), (126, 47660, 47900, 6, 3, 4, 0, 100), (126, 47660, 47900, 6, 4, 5, 0, 146399), (126, 47660, 47900, 6, 5, 6, 0, 146399), (126, 47900, 48300, 4, 0, 1, 0, 39), (126, 47900, 48300, 4, 1, 2, (-1), 599), (126, 47900, 48300, 4, 2, 3, 0, 146399), (126, 47900, 48300, 4, 3, 4, 0, 146399), (126, 48300, 48460, 4, 0, 1, 0, 2), (126, 48300, 48460, 4, 1, 2, 0, 399), (126, 48300, 48460, 4, 2, 3, 0, 1000000), (126, 48300, 48460, 4, 3, 4, 0, 146399), (126, 48460, 48960, 5, 0, 1, 0, 39), (126, 48460, 48960, 5, 1, 2, 0, 39), (126, 48460, 48960, 5, 2, 3, 0, 1000000), (126, 48460, 48960, 5, 3, 4, 0, 146399), (126, 48460, 48960, 5, 4, 5, 0, 146399), (126, 48960, 49360, 4, 0, 1, 0, 3), (126, 48960, 49360, 4, 1, 2, 0, 399), (126, 48960, 49360, 4, 2, 3, (-1000000), 1000000), (126, 48960, 49360, 4, 3, 4, 0, 146399), (126, 49360, 49520, 4, 0, 1, 0, 3), (126, 49360, 49520, 4, 1, 2, 0, 399), (126, 49360, 49520, 4, 3, 4, 0, 146399), (126, 49520, 49920, 4, 0, 1, 0, 2), (126, 49520, 49920, 4, 1, 2, 0, 399), (126, 49520, 49920, 4, 2, 3, 0, 10000), (126, 49520, 49920, 4, 3, 4, 0, 146399), (126, 49920, 50660, 2, 0, 1, 0, 3), (126, 49920, 50660, 2, 1, 2, 0, 199)]) rfl (List.forall_mem_cons.mpr ⟨fun q1 q2 _ _ => by simp only at q1 q2; omega, List.forall_mem_cons.mpr ⟨fun q1 q2 _ _ => by simp only at q1 q2; omega, List.forall_mem_cons.mpr ⟨fun q1 q2 _ _ => by simp only at q1 q2; omega, List.forall_mem_cons.mpr ⟨fun q1 q2 _ _ => by simp only at q1 q2; omega, List.forall_mem_cons.mpr ⟨h0, List.forall_mem_cons.mpr ⟨fun q1 q2 _ _ => by simp only at q1 q2; omega, List.forall_mem_cons.mpr ⟨fun q1 q2 _ _ => by simp only at q1 q2; omega, List.forall_mem_cons.mpr ⟨fun q1 q2 _ _ => by simp only at q1 q2; omega, List.forall_mem_cons.mpr ⟨fun q1 q2 _ _ => by simp only at q1 q2; omega, List.forall_mem_cons.mpr ⟨fun q1 q2 _ _ => by simp only at q1 q2; omega, List.forall_mem_cons.mpr ⟨fun q1 q2 _ _ => by simp only at q1 q2; omega, List.forall_mem_cons.mpr ⟨fun q1 q2 _ _ => by simp only at q1 q2; omega, List.forall_mem_cons.mpr ⟨fun q1 q2 _ _ => by simp only at q1 q2; omega, List.forall_mem_cons.mpr ⟨fun q1 q2 _ _ => by simp only at q1 q2; omega, List.forall_mem_cons.mpr ⟨fun q1 q2 _ _ => by simp only at q1 q2; omega, List.forall_mem_cons.mpr ⟨fun q1 q2 _ _ => by simp only at q1 q2; omega, List.forall_mem_cons.mpr ⟨fun q1 q2 _ _ => by simp only at q1 q2; omega, List.forall_mem_cons.mpr ⟨fun q1 q2 _ _ => by simp only at q1 q2; omega, List.forall_mem_cons.mpr ⟨fun q1 q2 _ _ => by simp only at q1 q2; omega, List.forall_mem_cons.mpr ⟨fun q1 q2 _ _ => by simp only at q1 q2; omega, List.forall_mem_cons.mpr ⟨fun q1 q2 _ _ => by simp only at q1 q2; omega, List.forall_mem_cons.mpr ⟨fun q1 q2 _ _ => by simp only at q1 q2; omega, List.forall_mem_cons.mpr ⟨fun q1 q2 _ _ => by simp only at q1 q2; omega, List.forall_mem_cons.mpr ⟨fun q1 q2 _ _ => by simp only at q1 q2; omega, List.forall_mem_cons.mpr ⟨fun q1 q2 _ _ => by simp only at q1 q2; omega, List.forall_mem_cons.mpr ⟨fun q1 q2 _ _ => by simp only at q1 q2; omega, List.forall_mem_cons.mpr ⟨fun q1 q2 _ _ => by simp only at q1 q2; omega, List.forall_mem_cons.mpr ⟨fun q1 q2 _ _ => by simp only at q1 q2; omega, List.forall_mem_cons.mpr ⟨fun q1 q2 _ _ => by simp only at q1 q2; omega, List.forall_mem_cons.mpr ⟨fun q1 q2 _ _ => by simp only at q1 q2; omega, List.forall_mem_cons.mpr ⟨fun q1 q2 _ _ => by simp only at q1 q2; omega, List.forall_mem_cons.mpr ⟨fun q1 q2 _ _ => by simp only at q1 q2; omega, List.forall_mem_cons.mpr ⟨fun q1 q2 _ _ => by simp only at q1 q2; omega, List.forall_mem_cons.mpr ⟨fun q1 q2 _ _ => by simp only at q1 q2; omega, List.forall_mem_cons.mpr ⟨fun q1 q2 _ _ => by simp only at q1 q2; omega, List.forall_mem_cons.mpr ⟨fun q1 q2 _ _ => by simp only at q1 q2; omega, List.forall_mem_cons.mpr ⟨fun q1 q2 _ _ => by simp only at q1 q2; omega, List.forall_mem_cons.mpr ⟨fun q1 q2 _ _ => by simp only at q1 q2; omega, List.forall_mem_cons.mpr ⟨fun q1 q2 _ _ => by simp only at q1 q2; omega, List.forall_mem_cons.mpr ⟨fun q1 q2 _ _ => by simp only at q1 q2; omega, List.forall_mem_cons.mpr ⟨fun q1 q2 _ _ => by simp only at q1 q2; omega, List.forall_mem_cons.mpr ⟨fun q1 q2 _ _ => by simp only at q1 q2; omega, List.forall_mem_cons.mpr ⟨fun q1 q2 _ _ => by simp only at q1 q2; omega, List.forall_mem_cons.mpr ⟨fun q1 q2 _ _ => by simp only at q1 q2; omega, List.forall_mem_cons.mpr ⟨fun q1 q2 _ _ => by simp only at q1 q2; omega, List.forall_mem_cons.mpr ⟨fun q1 q2 _ _ => by simp only at q1 q2; omega, List.forall_mem_cons.mpr ⟨fun q1 q2 _ _ => by simp only at q1 q2; omega, List.forall_mem_cons.mpr ⟨fun q1 q2 _ _ => by simp only at q1 q2; omega, List.forall_mem_cons.mpr ⟨fun q1 q2 _ _ => by simp only at q1 q2; omega, List.forall_mem_cons.mpr ⟨fun q1 q2 _ _ => by simp only at q1 q2; omega, List.forall_mem_cons.mpr ⟨fun q1 q2 _ _ => by simp only at q1 q2; omega, List.forall_mem_cons.mpr ⟨fun q1 q2 _ _ => by simp only at q1 q2; omega, List.forall_mem_cons.mpr ⟨fun q1 q2 _ _ => by simp only at q1 q2; omega, List.forall_mem_cons.mpr ⟨fun q1 q2 _ _ => by simp only at q1 q2; omega, List.forall_mem_cons.mpr ⟨fun q1 q2 _ _ => by simp only at q1 q2; omega, List.forall_mem_cons.mpr ⟨fun q1 q2 _ _ => by simp only at q1 q2; omega, List.forall_mem_cons.mpr ⟨fun q1 q2 _ _ => by simp only at q1 q2; omega, List.forall_mem_cons.mpr ⟨fun q1 q2 _ _ => by simp only at q1 q2; omega, List.forall_mem_cons.mpr ⟨fun q1 q2 _ _ => by simp only at q1 q2; omega, List.forall_mem_cons.mpr ⟨fun q1 q2 _ _ => by simp only at q1 q2; omega, List.forall_mem_cons.mpr ⟨fun q1 q2 _ _ => by simp only at q1 q2; omega, List.forall_mem_cons.mpr ⟨fun q1 q2 _ _ => by simp only at q1 q2; omega, List.forall_mem_cons.mpr ⟨fun q1 q2 _ _ => by simp only at q1 q2; omega, List.forall_mem_cons.mpr ⟨fun q1 q2 _ _ => by simp only at q1 q2; omega, List.forall_mem_cons.mpr ⟨fun q1 q2 _ _ => by simp only at q1 q2; omega, List.forall_mem_cons.mpr ⟨fun q1 q2 _ _ => by simp only at q1 q2; omega, List.forall_mem_cons.mpr ⟨fun q1 q2 _ _ => by simp only at q1 q2; omega, List.forall_mem_cons.mpr ⟨fun q1 q2 _ _ => by simp only at q1 q2; omega, List.forall_mem_cons.mpr ⟨fun q1 q2 _ _ => by simp only at q1 q2; omega, List.forall_mem_cons.mpr ⟨fun q1 q2 _ _ => by simp only at q1 q2; omega, List.forall_mem_cons.mpr ⟨fun q1 q2 _ _ => by simp only at q1 q2; omega, List.forall_mem_cons.mpr ⟨fun q1 q2 _ _ => by simp only at q1 q2; omega, List.forall_mem_cons.mpr ⟨fun q1 q2 _ _ => by simp only at q1 q2; omega, List.forall_mem_cons.mpr ⟨fun q1 q2 _ _ => by simp only at q1 q2; omega, List.forall_mem_cons.mpr ⟨fun q1 q2 _ _ => by simp only at q1 q2; omega, List.forall_mem_cons.mpr ⟨fun q1 q2 _ _ => by simp only at q1 q2; omega, List.forall_mem_cons.mpr ⟨fun q1 q2 _ _ => by simp only at q1 q2; omega, List.forall_mem_cons.mpr ⟨fun q1 q2 _ _ => by simp only at q1 q2; omega, List.forall_mem_cons.mpr ⟨fun q1 q2 _ _ => by simp only at q1 q2; omega, List.forall_mem_cons.mpr ⟨fun q1 q2 _ _ => by simp only at q1 q2; omega, List.forall_mem_cons.mpr ⟨fun q1 q2 _ _ => by simp only at q1 q2; omega, List.forall_mem_cons.mpr ⟨fun q1 q2 _ _ => by simp only at q1 q2; omega, List.forall_mem_cons.mpr ⟨fun q1 q2 _ _ => by simp only at q1 q2; omega, List.forall_mem_cons.mpr ⟨fun q1 q2 _ _ => by simp only at q1 q2; omega, List.forall_mem_cons.mpr ⟨fun q1 q2 _ _ => by simp only at q1 q2; omega, List.forall_mem_cons.mpr ⟨fun q1 q2 _ _ => by simp only at q1 q2; omega, List.forall_mem_cons.mpr ⟨fun q1 q2 _ _ => by simp only at q1 q2; omega, List.forall_mem_cons.mpr ⟨fun q1 q2 _ _ => by simp only at q1 q2; omega, List.forall_mem_cons.mpr ⟨fun q1 q2 _ _ => by simp only at q1 q2; omega, List.forall_mem_cons.mpr ⟨fun q1 q2 _ _ => by simp only at q1 q2; omega, List.forall_mem_cons.mpr ⟨fun q1 q2 _ _ => by simp only at q1 q2; omega, List.forall_mem_cons.mpr ⟨fun q1 q2 _ _ => by simp only at q1 q2; omega, List.forall_mem_cons.mpr ⟨fun q1 q2 _ _ => by simp only at q1 q2; omega, List.forall_mem_cons.mpr ⟨fun q1 q2 _ _ => by simp only at q1 q2; omega, List.forall_mem_cons.mpr ⟨fun q1 q2 _ _ => by simp only at q1 q2; omega, List.forall_mem_cons.mpr ⟨fun q1 q2 _ _ => by simp only at q1 q2; omega, List.forall_mem_cons.mpr ⟨fun q1 q2 _ _ => by simp only at q1 q2; omega, List.forall_mem_cons.mpr ⟨fun q1 q2 _ _ => by simp only at q1 q2; omega, List.forall_mem_cons.mpr ⟨fun q1 q2 _ _ => by simp only at q1 q2; omega, List.forall_mem_cons.mpr ⟨fun q1 q2 _ _ => by simp only at q1 q2; omega, List.forall_mem_cons.mpr ⟨fun q1 q2 _ _ => by simp only at q1 q2; omega, fun _ h => absurd h List.not_mem_nil⟩⟩⟩⟩⟩⟩⟩⟩⟩⟩⟩⟩⟩⟩⟩⟩⟩⟩⟩⟩⟩⟩⟩⟩⟩⟩⟩⟩⟩⟩⟩⟩⟩⟩⟩⟩⟩⟩⟩⟩⟩⟩⟩⟩⟩⟩⟩⟩⟩⟩⟩⟩⟩⟩⟩⟩⟩⟩⟩⟩⟩⟩⟩⟩⟩⟩⟩⟩⟩⟩⟩⟩⟩⟩⟩⟩⟩⟩⟩⟩⟩⟩⟩⟩⟩⟩⟩⟩⟩⟩⟩⟩⟩⟩⟩⟩⟩⟩⟩⟩⟩)

def jTt (h1 h : jH) (t : Nat) (m : Int32) (k1 k2 : Nat) : Prop := jiv h 126 (18823 + 924 * t) = m ∧ (∀ j, j < k1 → jiv h 126 (18824 + 924 * t + j) = jiv h1 147 j) ∧ (∀ j, j < k2 → jiv h 126 (18944 + 924 * t + 2 * j) = jiv h1 148 j ∧ jiv h 126 (18944 + 924 * t + 2 * j + 1) = jiv h1 149 j) ∧ ∀ i, (i < 18820 + 924 * t ∨ 18820 + 924 * t + 924 ≤ i) → jiv h 126 i = jiv h1 126 i
theorem jro {h hx9 : jH} {k i : Nat} {x : Int32} (w : hx9 = jsi h 126 k x) (e : i ≠ k) : jiv hx9 126 i = jiv h 126 i := jmo w (by rw [jbne e, Bool.and_false]) rfl
theorem jTt_0 {h1 ha hb hc hd : jH} {n i0 i1 i2 i3 x0 x1 x2 m : Int32} (hn : 0 ≤ n.toInt ∧ n.toInt ≤ 29) (e0 : i0.toInt = 18820 + 924 * n.toInt) (e1 : i1.toInt = 18821 + 924 * n.toInt) (e2 : i2.toInt = 18822 + 924 * n.toInt) (e3 : i3.toInt = 18823 + 924 * n.toInt) (w0 : ha = jsi h1 126 i0.toNatClampNeg x0) (w1 : hb = jsi ha 126 i1.toNatClampNeg x1) (w2 : hc = jsi hb 126 i2.toNatClampNeg x2) (w3 : hd = jsi hc 126 i3.toNatClampNeg m) : jTt h1 hd n.toNatClampNeg m 0 0 := by
  have a := jcl_of hn.1
  have b0 := jcl_of (d := i0) (by omega)
  have b1 := jcl_of (d := i1) (by omega)
  have b2 := jcl_of (d := i2) (by omega)
  have b3 := jcl_of (d := i3) (by omega)
  refine ⟨?_, fun j hj => by omega, fun j hj => by omega, fun i hi => ?_⟩
  · rw [show 18823 + 924 * n.toNatClampNeg = i3.toNatClampNeg from by omega]
    exact jmw w3
  · rw [jro w3 (by omega), jro w2 (by omega), jro w1 (by omega), jro w0 (by omega)]
theorem jTt_1 {h1 h hx9 : jH} {n m i k k' y : Int32} (hn : 0 ≤ n.toInt ∧ n.toInt ≤ 29) (hk : 0 ≤ k.toInt ∧ k.toInt < 120) (hk' : k'.toInt = k.toInt + 1) (T : jTt h1 h n.toNatClampNeg m k.toNatClampNeg 0) (hi : i.toInt = 18824 + 924 * n.toInt + k.toInt) (e : ∀ j, jiv h 147 j = jiv h1 147 j) (q : jiv h 147 k.toNatClampNeg = y) (w : hx9 = jsi h 126 i.toNatClampNeg y) : jTt h1 hx9 n.toNatClampNeg m k'.toNatClampNeg 0 := by
  have a := jcl_of hn.1
  have b := jcl_of hk.1
  have c := jcl_of (d := i) (by omega)
  rw [jcl_s ⟨hk', hk.1⟩]
  obtain ⟨t1, t2, t3, t4⟩ := T
  refine ⟨by rw [jro w (by omega)]; exact t1, fun j hj => ?_, fun j hj => by omega, fun x hx => by rw [jro w (by omega)]; exact t4 x hx⟩
  by_cases z : j = k.toNatClampNeg
  · rw [show 18824 + 924 * n.toNatClampNeg + j = i.toNatClampNeg from by omega, jmw w, ← q, z]
    exact e _
  · rw [jro w (by omega)]
    exact t2 j (by omega)
theorem jTt_2 {h1 h ha hb : jH} {n m i i' k k' x y : Int32} {k1 : Nat} (hn : 0 ≤ n.toInt ∧ n.toInt ≤ 29) (hk : 0 ≤ k.toInt ∧ k.toInt < 400) (hk' : k'.toInt = k.toInt + 1) (h120 : k1 ≤ 120) (T : jTt h1 h n.toNatClampNeg m k1 k.toNatClampNeg) (hi : i.toInt = 18944 + 924 * n.toInt + 2 * k.toInt) (hi' : i'.toInt = i.toInt + 1) (e8 : ∀ j, jiv h 148 j = jiv h1 148 j) (e9 : ∀ j, jiv ha 149 j = jiv h1 149 j) (q : jiv h 148 k.toNatClampNeg = x) (q' : jiv ha 149 k.toNatClampNeg = y) (w : ha = jsi h 126 i.toNatClampNeg x) (w' : hb = jsi ha 126 i'.toNatClampNeg y) : jTt h1 hb n.toNatClampNeg m k1 k'.toNatClampNeg := by
  have a := jcl_of hn.1
  have b := jcl_of hk.1
  have c := jcl_of (d := i) (by omega)
  have c' := jcl_of (d := i') (by omega)
  rw [jcl_s ⟨hk', hk.1⟩]
  obtain ⟨t1, t2, t3, t4⟩ := T
  refine ⟨by rw [jro w' (by omega), jro w (by omega)]; exact t1, fun j hj => by rw [jro w' (by omega), jro w (by omega)]; exact t2 j hj, fun j hj => ?_, fun x hx => by rw [jro w' (by omega), jro w (by omega)]; exact t4 x hx⟩
  by_cases z : j = k.toNatClampNeg
  · refine ⟨?_, ?_⟩
    · rw [show 18944 + 924 * n.toNatClampNeg + 2 * j = i.toNatClampNeg from by omega, jro w' (by omega), jmw w, ← q, z]
      exact e8 _
    · rw [show 18944 + 924 * n.toNatClampNeg + 2 * j + 1 = i'.toNatClampNeg from by omega, jmw w', ← q', z]
      exact e9 _
  · rw [jro w' (by omega), jro w (by omega), jro w' (by omega), jro w (by omega)]
    exact t3 j (by omega)
theorem jht_s {f g : Nat → Int32} {t a : Nat} (e : ∀ i, 18820 + 924 * t ≤ i → i < 19744 + 924 * t → f i = g i) : ∀ n, a + n ≤ 400 → jht f t a n = jht g t a n := by
  intro n
  induction n with
  | zero => intro _; rfl
  | succ n ih =>
    intro hn
    show jht f t a n + _ = jht g t a n + _
    rw [ih (by omega), e _ (by omega) (by omega)]
theorem jPc_s {f g : Nat → Int32} {t a b : Nat} (e : ∀ i, 18820 + 924 * t ≤ i → i < 19744 + 924 * t → f i = g i) (h : jPc f t a b) : jPc g t a b := by
  refine ⟨h.1, fun n hn => ?_⟩
  have hb := h.1
  have e1 := e (18944 + 924 * t + 2 * (a + n)) (by omega) (by omega)
  have e2 := e (18944 + 924 * t + 2 * (a + n) + 1) (by omega) (by omega)
  have e3 := jht_s (f := f) (g := g) (a := a) e n (by omega)
  have k := h.2 n hn
  rw [e1, e2, e3] at k
  refine ⟨k.1, k.2.1, fun q => ?_⟩
  obtain ⟨r, r1, r2, r3, r4⟩ := k.2.2 q
  exact ⟨r, r1, r2, r3, by rw [← jht_s (f := f) (g := g) e r (by omega)]; exact r4⟩
def jW1 (f : Nat → Int32) (t c : Nat) : Prop := (jcv f t c 0 = 0 → 0 ≤ jcv f t c 2 ∧ jcv f t c 2 ≤ 29 ∧ 0 ≤ jcv f t c 3 ∧ jcv f t c 3 ≤ 11) ∧ (0 ≤ jcv f t c 2 ∧ jcv f t c 2 ≤ 399) ∧
  ∀ e, e = 4 ∨ e = 6 ∨ e = 8 → ∃ a b : Nat, jcv f t c e = a ∧ jcv f t c (e + 1) = b ∧ jPc f t a b
theorem jW1_s {f g : Nat → Int32} {t c : Nat} (hc : c < 12) (e : ∀ i, 18820 + 924 * t ≤ i → i < 19744 + 924 * t → f i = g i) (k : jW1 f t c) : jW1 g t c := by
  have e0 : ∀ j, j < 10 → jcv f t c j = jcv g t c j := fun j hj => by unfold jcv; rw [e _ (by omega) (by omega)]
  refine ⟨?_, ?_, fun x hx => ?_⟩
  · rw [← e0 0 (by omega), ← e0 2 (by omega), ← e0 3 (by omega)]; exact k.1
  · rw [← e0 2 (by omega)]; exact k.2.1
  · obtain ⟨a, b, k1, k2, k3⟩ := k.2.2 x hx
    exact ⟨a, b, by rw [← e0 x (by omega)]; exact k1, by rw [← e0 (x + 1) (by omega)]; exact k2, jPc_s e k3⟩
theorem jTt_B {h1 h : jH} {t k1 k2 : Nat} {m : Int32} (B : jB h1) (W : jWk jpb h1 h) (ht : t < 30) (T : jTt h1 h t m k1 k2) (hm : m.toInt = (jnK h1 : Int)) (h1k : 10 * jnK h1 ≤ k1) (h2k : jnC h1 ≤ k2) (G : ∀ k, k < jnK h1 → jCg (jiv h1 147) (jiv h1 148) (jiv h1 149) (10 * k) (jnC h1)) : jB h := by
  obtain ⟨b1, b2, b3, b4, b5, b6, b7⟩ := B
  obtain ⟨t1, t2, t3, t4⟩ := T
  have e7 : jiv h 127 = jiv h1 127 := funext fun i => W.2.2.2.1 127 i rfl
  have e2 : jiv h 132 = jiv h1 132 := funext fun i => W.2.2.2.1 132 i rfl
  have e3 : jiv h 133 = jiv h1 133 := funext fun i => W.2.2.2.1 133 i rfl
  refine ⟨by rw [W.1]; exact b1, fun t c ht q => jWk_tx jpb_hi W (b2 t c ht (by rw [← W.2.2.1]; exact q)), ?_, by rw [e7]; exact b4, fun s p hs hp q => ?_, fun k k4o hk => ?_, by rw [e7]; exact b7⟩
  · intro t' c ht' hc hn
    show jW1 (jiv h 126) t' c
    by_cases z : t' = t
    · subst z
      rw [t1, hm] at hn
      have cv : ∀ e, e < 10 → jcv (jiv h 126) t' c e = (jiv h1 147 (10 * c + e)).toInt := fun e he => by
        unfold jcv
        rw [Nat.add_assoc, t2 (10 * c + e) (by omega)]
      obtain ⟨g1, g2, g3⟩ := G c (by omega)
      refine ⟨?_, ?_, fun x hx => ?_⟩
      · rw [cv 0 (by omega), cv 2 (by omega), cv 3 (by omega)]
        exact g1
      · rw [cv 2 (by omega)]
        exact g2
      · obtain ⟨a, b, p1, p2, p3, p4⟩ := g3 x hx
        refine ⟨a, b, by rw [cv x (by omega)]; exact p1, by rw [cv (x + 1) (by omega), ← Nat.add_assoc]; exact p2, jPc_of p3 (fun j hj => (t3 j (by omega)).1) (fun j hj => (t3 j (by omega)).2)⟩
    · refine jW1_s hc (f := jiv h1 126) (fun i i1 i2 => (t4 i (by omega)).symm) (b3 t' c ht' hc ?_)
      rw [t4 _ (by omega)] at hn
      exact hn
  · rw [e2] at q
    rw [e3]
    exact b5 s p hs hp q
  · rw [t4 _ (by omega)] at hk
    rw [t4 _ (by omega)]
    exact b6 k k4o hk
theorem txA_s {s k i : Nat} {T V0 : jW} {h hx9 : jH} {x : Int32} (X : vw h = txA s T k V0) (w : hx9 = jsi h 126 i x) (hi : i = s + 4 + k) (hx : T.1 147 k = x.toInt) : vw hx9 = txA s T (k + 1) V0 := by
  rw [← vwf w rfl, X, hi, ← hx]
  rfl
theorem txB_s {s k i i2 : Nat} {T V0 : jW} {h ha hb : jH} {x y : Int32} (X : vw h = txB s T k V0) (w : ha = jsi h 126 i x) (w2 : hb = jsi ha 126 i2 y) (hi : i = s + 124 + 2 * k) (hi2 : i2 = s + 124 + 2 * k + 1) (hx : T.1 148 k = x.toInt) (hy : T.1 149 k = y.toInt) : vw hb = txB s T (k + 1) V0 := by
  rw [← vwf w2 rfl, ← vwf w rfl, X, hi, hi2, ← hx, ← hy]
  rfl
theorem txH_s {s i0 i1 i2 i3 : Nat} {h ha hb hc hd : jH} {x0 x1 x2 m : Int32} (w0 : ha = jsi h 126 i0 x0) (w1 : hb = jsi ha 126 i1 x1) (w2 : hc = jsi hb 126 i2 x2) (w3 : hd = jsi hc 126 i3 m) (e0 : i0 = s) (e1 : i1 = s + 1) (e2 : i2 = s + 2) (e3 : i3 = s + 3) : txH x0.toInt x1.toInt x2.toInt m.toInt s (vw h) = vw hd := by
  unfold txH
  rw [← e0, vwf w0 rfl, e0, ← e1, vwf w1 rfl, ← e2, vwf w2 rfl, ← e3, vwf w3 rfl]
set_option maxRecDepth 100000 in
set_option maxHeartbeats 4000000 in
theorem tx_216D {Dy : jH → Prop} {h0 h1 : jH} {Q : Option Value → jH → Prop} {FP : jFp} {l5 g7 g9 n : Int32} (hD : jDw jpb Dy) (e5 : ∀ h, Dy h → (∀ j, jiv h 147 j = jiv h1 147 j) ∧ (∀ j, jiv h 148 j = jiv h1 148 j) ∧ ∀ j, jiv h 149 j = jiv h1 149 j) (f1 : FP.contains (126, 18820, 46540) = true) (hn : 0 ≤ n.toInt ∧ n.toInt ≤ 29) (hl : l5.toInt = 18820 + 924 * n.toInt) (h7 : 0 ≤ g7.toInt ∧ g7.toInt ≤ 12) (h9 : 0 ≤ g9.toInt ∧ g9.toInt ≤ 400) {s0 : Nat} {V0 : jW} (hs0 : l5.toNatClampNeg = s0) (hK : ∀ (l6 : Int32) (h : jH), 10 * g7.toInt ≤ l6.toInt → l6.toInt ≤ 10 * g7.toInt → jTt h1 h n.toNatClampNeg g7 l6.toNatClampNeg 0 → jiv h 125 47 = g7 → jiv h 125 49 = g9 → jJ jSgM Dy h → jSm FP h0 h → vw h = txA s0 (vw h1) l6.toNatClampNeg V0 → jX m_X12_text 10 0 0 253 [(0, .ref 125), (5, .int l5), (6, .int l6)] [] h 0 0 Q) : ∀ r : Nat, ∀ (l6 : Int32) (h : jH), 120 - l6.toInt < (r : Int) → 0 ≤ l6.toInt ∧ l6.toInt ≤ 10 * g7.toInt → jTt h1 h n.toNatClampNeg g7 l6.toNatClampNeg 0 → jiv h 125 47 = g7 → jiv h 125 49 = g9 → jJ jSgM Dy h → jSm FP h0 h → vw h = txA s0 (vw h1) l6.toNatClampNeg V0 → jX m_X12_text 10 0 0 216 [(0, .ref 125), (5, .int l5), (6, .int l6)] [] h 0 0 Q := by
  intro r
  induction r with
  | zero =>
    intro l6 h hm y1 T z7 z9 J Sm X
    exfalso
    omega
  | succ r ih =>
    intro l6 h hm y1 T z7 z9 J Sm X
    refine x_iload (x := l6) rfl rfl ?_
    refine x_bipush (v := 10) rfl kb_10 ?_
    refine x_aloadn (x := 125) rfl rfl ?_
    refine z_getM (N := 92) (v := g7) 12 47 rfl f_12_636 rfl J rfl z7 ?_
    refine z_imul rfl jk_10 rfl (by omega) (fun v1 ev1 => ?_)
    refine x_icge (tgt := 253) rfl rfl (ti_ge rfl rfl ⟨fun c2 => ?_, fun c2 => ?_⟩)
    ·
      exact hK l6 h (by omega) y1.2 T z7 z9 J Sm X
    ·
      refine x_aloadn (x := 125) rfl rfl ?_
      refine z_getR (N := 92) (b := 126) 12 2 rfl f_12_8 rfl J rfl 16002 ⟨rfl, rfl⟩ rfl ?_
      refine x_iload (x := l5) rfl rfl ?_
      refine x_iconst (v := 4) rfl ki_4 ?_
      refine z_iadd rfl rfl jk_4 (by omega) (fun v3 ev3 => ?_)
      refine x_iload (x := l6) rfl rfl ?_
      refine z_iadd rfl rfl rfl (by omega) (fun v4 ev4 => ?_)
      refine x_aloadn (x := 125) rfl rfl ?_
      refine z_getR (N := 92) (b := 147) 12 48 rfl f_12_96 rfl J rfl 16048 ⟨rfl, rfl⟩ rfl ?_
      refine x_iload (x := l6) rfl rfl ?_
      refine z_iald0 (N := 120) rfl J rfl rfl (by omega) (fun v5 qv5 => ?_)
      have e := (e5 h J.2.2).1
      have b5 := jfull v5
      refine zw_iast (N := 50660) (l := 18820) (u := 46540) (w := v5.toInt) rfl hD J Sm rfl rfl rfl rfl (by omega) rfl (wr_126_18820 (by omega) (fun q1 q2 q3 q4 => by omega) (fun q1 q2 q3 q4 => by omega) (fun q1 q2 q3 q4 => by omega) (fun q1 q2 q3 q4 => by omega)) f1 (fun h w6 J Sm => ?_)
      refine z_iinc (x := l6) (lsx9 := fun v7 => [(6, .int v7), (0, .ref 125), (5, .int l5)]) rfl rfl rfl jko_1 (by omega) rfl (fun _ => rfl) (fun v7 ev7 => ?_)
      refine x_goto (tgt := 216) rfl rfl ?_
      exact jX.sub (jsb_c rfl (jsb_c rfl (jsb_c rfl jsb_n))) (ih v7 h (by omega) (jr_of rfl (by omega)) (jTt_1 hn (by omega) (by omega) T (by omega) e qv5 w6) (jmo w6 rfl z7) (jmo w6 rfl z9) J Sm (by
        rw [jcl_s (v := v7) (l := l6) ⟨ev7, y1.1⟩]
        have k5 := jcl_of (d := l5) (by omega)
        have k6 := jcl_of y1.1
        have k4 := jcl_of (d := v4) (by omega)
        exact txA_s X w6 (by omega) (congrArg Int32.toInt ((e _).symm.trans qv5))))
set_option maxRecDepth 100000 in
set_option maxHeartbeats 4000000 in
theorem tx_256D {Dy : jH → Prop} {h0 h1 : jH} {Q : Option Value → jH → Prop} {FP : jFp} {l5 g7 g9 n : Int32} (hD : jDw jpb Dy) (e5 : ∀ h, Dy h → (∀ j, jiv h 147 j = jiv h1 147 j) ∧ (∀ j, jiv h 148 j = jiv h1 148 j) ∧ ∀ j, jiv h 149 j = jiv h1 149 j) (f1 : FP.contains (126, 18820, 46540) = true) (hn : 0 ≤ n.toInt ∧ n.toInt ≤ 29) (hl : l5.toInt = 18820 + 924 * n.toInt) (h7 : 0 ≤ g7.toInt ∧ g7.toInt ≤ 12) (h9 : 0 ≤ g9.toInt ∧ g9.toInt ≤ 400) {s0 : Nat} {V0 : jW} (hs0 : l5.toNatClampNeg = s0) {k1 : Nat} (h120 : k1 ≤ 120) (hK : ∀ (l6 : Int32) (h : jH), g9.toInt ≤ l6.toInt → l6.toInt ≤ g9.toInt → jTt h1 h n.toNatClampNeg g7 k1 l6.toNatClampNeg → jiv h 125 47 = g7 → jiv h 125 49 = g9 → jJ jSgM Dy h → jSm FP h0 h → vw h = txB s0 (vw h1) l6.toNatClampNeg V0 → jX m_X12_text 10 0 0 317 [(0, .ref 125), (5, .int l5), (6, .int l6)] [] h 0 0 Q) : ∀ r : Nat, ∀ (l6 : Int32) (h : jH), 400 - l6.toInt < (r : Int) → 0 ≤ l6.toInt ∧ l6.toInt ≤ g9.toInt → jTt h1 h n.toNatClampNeg g7 k1 l6.toNatClampNeg → jiv h 125 47 = g7 → jiv h 125 49 = g9 → jJ jSgM Dy h → jSm FP h0 h → vw h = txB s0 (vw h1) l6.toNatClampNeg V0 → jX m_X12_text 10 0 0 256 [(0, .ref 125), (5, .int l5), (6, .int l6)] [] h 0 0 Q := by
  intro r
  induction r with
  | zero =>
    intro l6 h hm y1 T z7 z9 J Sm X
    exfalso
    omega
  | succ r ih =>
    intro l6 h hm y1 T z7 z9 J Sm X
    refine x_iload (x := l6) rfl rfl ?_
    refine x_aloadn (x := 125) rfl rfl ?_
    refine z_getM (N := 92) (v := g9) 12 49 rfl f_12_493 rfl J rfl z9 ?_
    refine x_icge (tgt := 317) rfl rfl (ti_ge rfl rfl ⟨fun c2 => ?_, fun c2 => ?_⟩)
    ·
      exact hK l6 h (by omega) y1.2 T z7 z9 J Sm X
    ·
      refine x_aloadn (x := 125) rfl rfl ?_
      refine z_getR (N := 92) (b := 126) 12 2 rfl f_12_8 rfl J rfl 16002 ⟨rfl, rfl⟩ rfl ?_
      refine x_iload (x := l5) rfl rfl ?_
      refine x_bipush (v := 124) rfl kb_124 ?_
      refine z_iadd rfl rfl jk_124 (by omega) (fun v3 ev3 => ?_)
      refine x_iconst (v := 2) rfl ki_2 ?_
      refine x_iload (x := l6) rfl rfl ?_
      refine z_imul rfl jk_2 rfl (by omega) (fun v4 ev4 => ?_)
      refine z_iadd rfl rfl rfl (by omega) (fun v5 ev5 => ?_)
      refine x_aloadn (x := 125) rfl rfl ?_
      refine z_getR (N := 92) (b := 148) 12 50 rfl f_12_99 rfl J rfl 16050 ⟨rfl, rfl⟩ rfl ?_
      refine x_iload (x := l6) rfl rfl ?_
      refine z_iald0 (N := 400) rfl J rfl rfl (by omega) (fun v6 qv6 => ?_)
      have e8 := (e5 h J.2.2).2.1
      have b6 := jfull v6
      refine zw_iast (N := 50660) (l := 18820) (u := 46540) (w := v6.toInt) rfl hD J Sm rfl rfl rfl rfl (by omega) rfl (wr_126_18820 (by omega) (fun q1 q2 q3 q4 => by omega) (fun q1 q2 q3 q4 => by omega) (fun q1 q2 q3 q4 => by omega) (fun q1 q2 q3 q4 => by omega)) f1 (fun h w7 J Sm => ?_)
      refine x_aloadn (x := 125) rfl rfl ?_
      refine z_getR (N := 92) (b := 126) 12 2 rfl f_12_8 rfl J rfl 16002 ⟨rfl, rfl⟩ rfl ?_
      refine x_iload (x := l5) rfl rfl ?_
      refine x_bipush (v := 124) rfl kb_124 ?_
      refine z_iadd rfl rfl jk_124 (by omega) (fun v8 ev8 => ?_)
      refine x_iconst (v := 2) rfl ki_2 ?_
      refine x_iload (x := l6) rfl rfl ?_
      refine z_imul rfl jk_2 rfl (by omega) (fun v9 ev9 => ?_)
      refine z_iadd rfl rfl rfl (by omega) (fun v10 ev10 => ?_)
      refine x_iconst (v := 1) rfl ki_1 ?_
      refine z_iadd rfl rfl jk_1 (by omega) (fun v11 ev11 => ?_)
      refine x_aloadn (x := 125) rfl rfl ?_
      refine z_getR (N := 92) (b := 149) 12 51 rfl f_12_102 rfl J rfl 16051 ⟨rfl, rfl⟩ rfl ?_
      refine x_iload (x := l6) rfl rfl ?_
      refine z_iald0 (N := 400) rfl J rfl rfl (by omega) (fun v12 qv12 => ?_)
      have e9 := (e5 h J.2.2).2.2
      have b12 := jfull v12
      refine zw_iast (N := 50660) (l := 18820) (u := 46540) (w := v12.toInt) rfl hD J Sm rfl rfl rfl rfl (by omega) rfl (wr_126_18820 (by omega) (fun q1 q2 q3 q4 => by omega) (fun q1 q2 q3 q4 => by omega) (fun q1 q2 q3 q4 => by omega) (fun q1 q2 q3 q4 => by omega)) f1 (fun h w13 J Sm => ?_)
      refine z_iinc (x := l6) (lsx9 := fun v14 => [(6, .int v14), (0, .ref 125), (5, .int l5)]) rfl rfl rfl jko_1 (by omega) rfl (fun _ => rfl) (fun v14 ev14 => ?_)
      refine x_goto (tgt := 256) rfl rfl ?_
      exact jX.sub (jsb_c rfl (jsb_c rfl (jsb_c rfl jsb_n))) (ih v14 h (by omega) (jr_of rfl (by omega)) (jTt_2 hn (by omega) (by omega) h120 T (by omega) (by omega) e8 e9 qv6 qv12 w7 w13) (jmo w13 rfl (jmo w7 rfl z7)) (jmo w13 rfl (jmo w7 rfl z9)) J Sm (by
        rw [jcl_s (v := v14) (l := l6) ⟨ev14, y1.1⟩]
        have k5 := jcl_of (d := l5) (by omega)
        have k6 := jcl_of y1.1
        have ka := jcl_of (d := v5) (by omega)
        have kb := jcl_of (d := v11) (by omega)
        exact txB_s X w7 w13 (by omega) (by omega) (congrArg Int32.toInt ((e8 _).symm.trans qv6)) (congrArg Int32.toInt ((e9 _).symm.trans qv12))))
set_option maxRecDepth 100000 in
set_option maxHeartbeats 4000000 in
theorem tx_317D {Dy : jH → Prop} {h0 h : jH} {Q : Option Value → jH → Prop} {FP : jFp} {l5 l6 u0 u1 n u3 u4 : Int32} (hD : jDk Dy) (J : jJ jSgM Dy h) (Sm : jSm FP h0 h) (f2 : FP.contains (126, 4, 5) = true) (f3 : FP.contains (126, 16, 17) = true) (f4 : FP.contains (126, 49920, 50660) = true) (f5 : jfs fp_X12_told_r125d FP = true) (q16 : jiv h 126 (16 : Int32).toNatClampNeg = u0) (q0 : jiv h 126 (0 : Int32).toNatClampNeg = u1) (q4 : jiv h 126 (4 : Int32).toNatClampNeg = n) (q5 : jiv h 126 (5 : Int32).toNatClampNeg = u3) (q7 : jiv h 126 (7 : Int32).toNatClampNeg = u4) (hn : 0 ≤ n.toInt ∧ n.toInt ≤ 29) (hu : 0 ≤ u0.toInt ∧ u0.toInt ≤ 369) (hr : u0.toInt = u1.toInt + n.toInt + u3.toInt + u4.toInt) {dr : Int × jW} (D : d_X12_told_r125d n.toInt (txN n.toInt u0.toInt (vw h)) = dr) (hQ : ∀ (v : Int32) hx9, jJ jSgM Dy hx9 → jSm FP h0 hx9 → ∀ u0 u1 u2 u3 u4 : Int32, jiv hx9 126 (16 : Int32).toNatClampNeg = u0 → jiv hx9 126 (0 : Int32).toNatClampNeg = u1 → jiv hx9 126 (4 : Int32).toNatClampNeg = u2 → jiv hx9 126 (5 : Int32).toNatClampNeg = u3 → jiv hx9 126 (7 : Int32).toNatClampNeg = u4 → u0.toInt = u1.toInt + u2.toInt + u3.toInt + u4.toInt → dr.1 = v.toInt → dr.2 = vw hx9 → Q (some (.int v)) hx9) : jX m_X12_text 10 0 0 317 [(0, .ref 125), (5, .int l5), (6, .int l6)] [] h 0 0 Q := by
  refine x_aloadn (x := 125) rfl rfl ?_
  refine z_getR (N := 92) (b := 126) 12 2 rfl f_12_8 rfl J rfl 16002 ⟨rfl, rfl⟩ rfl ?_
  refine x_iconst (v := 4) rfl ki_4 ?_
  refine x_dup2 rfl rfl rfl ?_
  refine z_ialdM (N := 50660) (v := n) rfl J rfl jk_4 (by omega) q4 ?_
  refine x_iconst (v := 1) rfl ki_1 ?_
  refine z_iadd rfl rfl jk_1 (by omega) (fun v3 ev3 => ?_)
  refine z_iast (N := 50660) (l := 4) (u := 5) (w := v3.toInt) rfl hD J Sm rfl rfl jk_4 (by omega) rfl (wr_126_4 (by omega) (fun q1 q2 q3 q4 => by omega)) f2 (fun h w4 J Sm => ?_)
  unfold txN at D
  rw [vwn (n := 4) (by decide) w4 (show n.toInt + 1 = v3.toInt from by omega)] at D
  refine x_aloadn (x := 125) rfl rfl ?_
  refine x_iconst (v := 1) rfl ki_1 ?_
  refine x_aloadn (x := 125) rfl rfl ?_
  refine z_getR (N := 92) (b := 126) 12 2 rfl f_12_8 rfl J rfl 16002 ⟨rfl, rfl⟩ rfl ?_
  refine x_iconst (v := 4) rfl ki_4 ?_
  refine z_ialdM (N := 50660) (v := v3) rfl J rfl jk_4 (by omega) (jmw w4) ?_
  refine x_iconst (v := 1) rfl ki_1 ?_
  refine z_isub rfl rfl jk_1 (by omega) (fun v5 ev5 => ?_)
  refine x_inv (N := m_X12_thing) (As := [.int 1, .int v5]) (b := 125) (st := []) (dx9 := 1) (mc := 0) (ms := 0) (host := "") 12 rfl t_X12_thing ⟨Or.inl q_12_289, i_X12_thing.1, i_X12_thing.2⟩ ⟨by decide, rfl⟩ (congrArg Prod.fst (J.1.1 125 (12, 92) rfl)) rfl (by decide) rfl rfl ⟨by decide, by decide⟩ (jC.of rfl k_X12_thing rfl ?_)
  show jX m_X12_thing 1 0 0 0 [(0, .ref 125), (1, .int 1), (2, .int v5)] [] _ 0 0 _
  refine x_ldc (v := 49920) rfl z_12_194 ?_
  refine x_iconst (v := 2) rfl ki_2 ?_
  refine x_aloadn (x := 125) rfl rfl ?_
  refine z_getR (N := 92) (b := 126) 12 2 rfl f_12_8 rfl J rfl 16002 ⟨rfl, rfl⟩ rfl ?_
  refine x_bipush (v := 16) rfl kb_16 ?_
  refine z_ialdM (N := 50660) (v := u0) rfl J rfl jk_16 (by omega) (jmo2 w4 jk_4 jk_16 (by omega) q16) ?_
  refine z_imul rfl jk_2 rfl (by omega) (fun v6 ev6 => ?_)
  refine z_iadd rfl jk_49920 rfl (by omega) (fun v7 ev7 => ?_)
  refine x_istoren (lsx9 := [(3, .int v7), (0, .ref 125), (1, .int 1), (2, .int v5)]) rfl rfl rfl ?_
  refine x_aloadn (x := 125) rfl rfl ?_
  refine z_getR (N := 92) (b := 126) 12 2 rfl f_12_8 rfl J rfl 16002 ⟨rfl, rfl⟩ rfl ?_
  refine x_iloadn (x := v7) rfl rfl ?_
  refine x_iloadn (x := 1) rfl rfl ?_
  refine z_iast (N := 50660) (l := 49920) (u := 50660) (w := 1) rfl hD J Sm rfl rfl rfl (by omega) jk_1 (wr_126_49920 (by omega) (fun q1 q2 q3 q4 => by omega) (fun q1 q2 q3 q4 => by omega)) f4 (fun h w8 J Sm => ?_)
  rw [vww w8 (show 49920 + 2 * u0.toInt = v7.toInt from by omega) (show (1 : Int) = (1 : Int32).toInt from by decide)] at D
  refine x_aloadn (x := 125) rfl rfl ?_
  refine z_getR (N := 92) (b := 126) 12 2 rfl f_12_8 rfl J rfl 16002 ⟨rfl, rfl⟩ rfl ?_
  refine x_iloadn (x := v7) rfl rfl ?_
  refine x_iconst (v := 1) rfl ki_1 ?_
  refine z_iadd rfl rfl jk_1 (by omega) (fun v9 ev9 => ?_)
  refine x_iloadn (x := v5) rfl rfl ?_
  refine z_iast (N := 50660) (l := 49920) (u := 50660) (w := v5.toInt) rfl hD J Sm rfl rfl rfl (by omega) rfl (wr_126_49920 (by omega) (fun q1 q2 q3 q4 => by omega) (fun q1 q2 q3 q4 => by omega)) f4 (fun h w10 J Sm => ?_)
  rw [vww w10 (show 49920 + 2 * u0.toInt + 1 = v9.toInt from by omega) (show n.toInt = v5.toInt from by omega)] at D
  refine x_aloadn (x := 125) rfl rfl ?_
  refine z_getR (N := 92) (b := 126) 12 2 rfl f_12_8 rfl J rfl 16002 ⟨rfl, rfl⟩ rfl ?_
  refine x_bipush (v := 16) rfl kb_16 ?_
  refine x_dup2 rfl rfl rfl ?_
  refine z_ialdM (N := 50660) (v := u0) rfl J rfl jk_16 (by omega) (jmo2 w10 rfl jk_16 (by omega) (jmo2 w8 rfl jk_16 (by omega) (jmo2 w4 jk_4 jk_16 (by omega) q16))) ?_
  refine x_iconst (v := 1) rfl ki_1 ?_
  refine z_iadd rfl rfl jk_1 (by omega) (fun v11 ev11 => ?_)
  refine z_iast (N := 50660) (l := 16) (u := 17) (w := v11.toInt) rfl hD J Sm rfl rfl jk_16 (by omega) rfl (wr_126_16 (by omega) (fun q1 q2 q3 q4 => by omega)) f3 (fun h w12 J Sm => ?_)
  rw [vwn (n := 16) (by decide) w12 (show u0.toInt + 1 = v11.toInt from by omega)] at D
  refine x_vret rfl rfl ?_
  show jX m_X12_text 10 0 0 340 [(0, .ref 125), (5, .int l5), (6, .int l6)] [] _ 0 0 _
  refine x_aloadn (x := 125) rfl rfl ?_
  refine x_aloadn (x := 125) rfl rfl ?_
  refine z_getR (N := 92) (b := 126) 12 2 rfl f_12_8 rfl J rfl 16002 ⟨rfl, rfl⟩ rfl ?_
  refine x_iconst (v := 4) rfl ki_4 ?_
  refine z_ialdM (N := 50660) (v := v3) rfl J rfl jk_4 (by omega) (jmo2 w12 jk_16 jk_4 (by omega) (jmo2 w10 rfl jk_4 (by omega) (jmo2 w8 rfl jk_4 (by omega) (jmw w4)))) ?_
  refine x_iconst (v := 1) rfl ki_1 ?_
  refine z_isub rfl rfl jk_1 (by omega) (fun v13 ev13 => ?_)
  refine x_inv (N := m_X12_told) (As := [.int v13]) (b := 125) (st := []) (dx9 := 1) (mc := 0) (ms := 0) (host := "") 12 rfl t_X12_told ⟨Or.inl q_12_197, i_X12_told.1, i_X12_told.2⟩ ⟨by decide, rfl⟩ (congrArg Prod.fst (J.1.1 125 (12, 92) rfl)) rfl (by decide) rfl rfl ⟨by decide, by decide⟩ (sf_X12_told_r125d hD J ((show d_X12_told_r125d v13.toInt (vw h) = d_X12_told_r125d n.toInt (vw h) from by rw [show n.toInt = v13.toInt from by omega]).trans D) (fun v15 h J S14 e1 e2 => ?_))
  have Sm := jSm_tr f5 Sm S14
  show jX m_X12_text 10 0 0 352 [(0, .ref 125), (5, .int l5), (6, .int l6)] [.int v15] _ 0 0 _
  refine x_iret rfl rfl ?_
  exact hQ _ _ J Sm _ _ _ _ _ (jmc S14 rfl (jmw w12)) (jmc S14 rfl (jmo2 w12 jk_16 jk_0 (by omega) (jmo2 w10 rfl jk_0 (by omega) (jmo2 w8 rfl jk_0 (by omega) (jmo2 w4 jk_4 jk_0 (by omega) q0))))) (jmc S14 rfl (jmo2 w12 jk_16 jk_4 (by omega) (jmo2 w10 rfl jk_4 (by omega) (jmo2 w8 rfl jk_4 (by omega) (jmw w4))))) (jmc S14 rfl (jmo2 w12 jk_16 jk_5 (by omega) (jmo2 w10 rfl jk_5 (by omega) (jmo2 w8 rfl jk_5 (by omega) (jmo2 w4 jk_4 jk_5 (by omega) q5))))) (jmc S14 rfl (jmo2 w12 jk_16 jk_7 (by omega) (jmo2 w10 rfl jk_7 (by omega) (jmo2 w8 rfl jk_7 (by omega) (jmo2 w4 jk_4 jk_7 (by omega) q7))))) (by omega) e1 e2
set_option maxRecDepth 100000 in
set_option maxHeartbeats 4000000 in
theorem tx_tailD {Dy : jH → Prop} {h0 hx h : jH} {Q : Option Value → jH → Prop} {FP : jFp} {l1 l2 l3 b u0 u1 n u3 u4 : Int32} (hD : jDk Dy) (J : jJ jSgM Dy h) (Sm : jSm FP h0 h) (f1 : FP.contains (126, 18820, 46540) = true) (f2 : FP.contains (126, 4, 5) = true) (f3 : FP.contains (126, 16, 17) = true) (f4 : FP.contains (126, 49920, 50660) = true) (f5 : jfs fp_X12_told_r125d FP = true) (y1 : 0 ≤ l1.toInt ∧ l1.toInt ≤ 1) (y2 : 0 ≤ l2.toInt ∧ l2.toInt ≤ 146399) (y3 : 0 ≤ l3.toInt ∧ l3.toInt ≤ 146399) (K : jRk (jnK h) hx h) (qb : jiv h 125 14 = b) (zb : b.toInt = 0) (q16 : jiv h 126 (16 : Int32).toNatClampNeg = u0) (q0 : jiv h 126 (0 : Int32).toNatClampNeg = u1) (q4 : jiv h 126 (4 : Int32).toNatClampNeg = n) (q5 : jiv h 126 (5 : Int32).toNatClampNeg = u3) (q7 : jiv h 126 (7 : Int32).toNatClampNeg = u4) (hn : 0 ≤ n.toInt ∧ n.toInt ≤ 29 ∧ 0 ≤ u0.toInt ∧ u0.toInt ≤ 369) (hr : u0.toInt = u1.toInt + n.toInt + u3.toInt + u4.toInt) {dr : Int × jW} (D : d_txt l1.toInt l2.toInt l3.toInt (vw h) = dr) (hQ : ∀ (v : Int32) hx9, jJ jSgM Dy hx9 → jSm FP h0 hx9 → ∀ u0 u1 u2 u3 u4 : Int32, jiv hx9 126 (16 : Int32).toNatClampNeg = u0 → jiv hx9 126 (0 : Int32).toNatClampNeg = u1 → jiv hx9 126 (4 : Int32).toNatClampNeg = u2 → jiv hx9 126 (5 : Int32).toNatClampNeg = u3 → jiv hx9 126 (7 : Int32).toNatClampNeg = u4 → u0.toInt = u1.toInt + u2.toInt + u3.toInt + u4.toInt → dr.1 = v.toInt → dr.2 = vw hx9 → Q (some (.int v)) hx9) : jX m_X12_text 10 0 0 161 [(0, .ref 125), (1, .int l1), (2, .int l2), (3, .int l3)] [] h 0 0 Q := by
  have hW := jWk_d (p := jpb) (h1 := h)
  have J0 := J
  have J := jWk_in (p := jpb) J
  have hn2 : 0 ≤ n.toInt ∧ n.toInt ≤ 29 := ⟨hn.1, hn.2.1⟩
  refine x_aloadn (x := 125) rfl rfl ?_
  refine z_getR (N := 92) (b := 126) 12 2 rfl f_12_8 rfl J rfl 16002 ⟨rfl, rfl⟩ rfl ?_
  refine x_iconst (v := 4) rfl ki_4 ?_
  refine z_ialdM (N := 50660) (v := n) rfl J rfl jk_4 (by omega) q4 ?_
  refine x_inst (N := m_X12_textAt) (As := [.int n]) (st := []) (dx9 := 1) (mc := 0) (ms := 0) (host := "") rfl t_X12_textAt ⟨Or.inl q_12_676, s_X12_textAt⟩ rfl (by decide) rfl rfl ⟨by decide, by decide⟩ (jC.of rfl k_X12_textAt rfl ?_)
  show jX m_X12_textAt 1 0 0 0 [(0, .int n)] [] _ 0 0 _
  refine x_sipush (v := 18820) rfl ks_18820 ?_
  refine x_sipush (v := 924) rfl ks_924 ?_
  refine x_iloadn (x := n) rfl rfl ?_
  refine z_imul rfl jk_924 rfl (by omega) (fun v1 ev1 => ?_)
  refine z_iadd rfl jk_18820 rfl (by omega) (fun l5 el5 => ?_)
  refine x_iret rfl rfl ?_
  show jX m_X12_text 10 0 0 170 [(0, .ref 125), (1, .int l1), (2, .int l2), (3, .int l3)] [.int l5] _ 0 0 _
  refine x_istore (lsx9 := [(5, .int l5), (0, .ref 125), (1, .int l1), (2, .int l2), (3, .int l3)]) rfl rfl rfl ?_
  refine x_aloadn (x := 125) rfl rfl ?_
  refine z_getR (N := 92) (b := 126) 12 2 rfl f_12_8 rfl J rfl 16002 ⟨rfl, rfl⟩ rfl ?_
  refine x_iload (x := l5) rfl rfl ?_
  refine x_iloadn (x := l1) rfl rfl ?_
  refine zw_iast (N := 50660) (l := 18820) (u := 46540) (w := l1.toInt) rfl hW J Sm rfl rfl rfl rfl (by omega) rfl (wr_126_18820 (by omega) (fun q1 q2 q3 q4 => by omega) (fun q1 q2 q3 q4 => by omega) (fun q1 q2 q3 q4 => by omega) (fun q1 q2 q3 q4 => by omega)) f1 (fun ha w0 J Sm => ?_)
  refine x_aloadn (x := 125) rfl rfl ?_
  refine z_getR (N := 92) (b := 126) 12 2 rfl f_12_8 rfl J rfl 16002 ⟨rfl, rfl⟩ rfl ?_
  refine x_iload (x := l5) rfl rfl ?_
  refine x_iconst (v := 1) rfl ki_1 ?_
  refine z_iadd rfl rfl jk_1 (by omega) (fun v2 ev2 => ?_)
  refine x_iloadn (x := l2) rfl rfl ?_
  refine zw_iast (N := 50660) (l := 18820) (u := 46540) (w := l2.toInt) rfl hW J Sm rfl rfl rfl rfl (by omega) rfl (wr_126_18820 (by omega) (fun q1 q2 q3 q4 => by omega) (fun q1 q2 q3 q4 => by omega) (fun q1 q2 q3 q4 => by omega) (fun q1 q2 q3 q4 => by omega)) f1 (fun hb w1 J Sm => ?_)
  refine x_aloadn (x := 125) rfl rfl ?_
  refine z_getR (N := 92) (b := 126) 12 2 rfl f_12_8 rfl J rfl 16002 ⟨rfl, rfl⟩ rfl ?_
  refine x_iload (x := l5) rfl rfl ?_
  refine x_iconst (v := 2) rfl ki_2 ?_
  refine z_iadd rfl rfl jk_2 (by omega) (fun v3 ev3 => ?_)
  refine x_iloadn (x := l3) rfl rfl ?_
  refine zw_iast (N := 50660) (l := 18820) (u := 46540) (w := l3.toInt) rfl hW J Sm rfl rfl rfl rfl (by omega) rfl (wr_126_18820 (by omega) (fun q1 q2 q3 q4 => by omega) (fun q1 q2 q3 q4 => by omega) (fun q1 q2 q3 q4 => by omega) (fun q1 q2 q3 q4 => by omega)) f1 (fun hc w2 J Sm => ?_)
  refine x_aloadn (x := 125) rfl rfl ?_
  refine z_getR (N := 92) (b := 126) 12 2 rfl f_12_8 rfl J rfl 16002 ⟨rfl, rfl⟩ rfl ?_
  refine x_iload (x := l5) rfl rfl ?_
  refine x_iconst (v := 3) rfl ki_3 ?_
  refine z_iadd rfl rfl jk_3 (by omega) (fun v4 ev4 => ?_)
  refine x_aloadn (x := 125) rfl rfl ?_
  refine z_getI (N := 92) 12 47 rfl f_12_636 rfl J rfl sg_125_47_48_1_0_1 (fun g7 q7c e7 => ?_)
  have q7a : jiv h 125 47 = g7 := (jmo w2 rfl (jmo w1 rfl (jmo w0 rfl rfl))).symm.trans q7c
  refine zw_iast (N := 50660) (l := 18820) (u := 46540) (w := g7.toInt) rfl hW J Sm rfl rfl rfl rfl (by omega) rfl (wr_126_18820 (by omega) (fun q1 q2 q3 q4 => by omega) (fun q1 q2 q3 q4 => by omega) (fun q1 q2 q3 q4 => by omega) (fun q1 q2 q3 q4 => by omega)) f1 (fun hd w3 J Sm => ?_)
  obtain ⟨g9, q9a⟩ : ∃ v : Int32, jiv h 125 49 = v := ⟨_, rfl⟩
  have e9 : 0 ≤ g9.toInt ∧ g9.toInt ≤ 400 := q9a ▸ jrg_f J0 sg_125_49_50_1_0_1
  refine x_iconst (v := 0) rfl ki_0 ?_
  refine x_istore (lsx9 := [(6, .int 0), (5, .int l5), (0, .ref 125), (1, .int l1), (2, .int l2), (3, .int l3)]) rfl rfl rfl ?_
  have z0 : (0 : Int32).toNatClampNeg = 0 := by decide
  have kl5 := jcl_of (d := l5) (by omega)
  have D : d_X12_told_r125d n.toInt (txN n.toInt u0.toInt (txB l5.toNatClampNeg (vw h) g9.toInt.toNat (txA l5.toNatClampNeg (vw h) (10 * g7.toInt).toNat (vw hd)))) = dr := by
    unfold d_txt at D
    have k2 := jcl_of (d := v2) (by omega)
    have k3 := jcl_of (d := v3) (by omega)
    have k4 := jcl_of (d := v4) (by omega)
    rw [show (vw h).1 126 4 = n.toInt from vrn (n := 4) (by decide) q4, show (vw h).1 126 16 = u0.toInt from vrn (n := 16) (by decide) q16, show (vw h).1 125 47 = g7.toInt from vrf q7a, show (vw h).1 125 49 = g9.toInt from vrf q9a, show (18820 + 924 * n.toInt).toNat = l5.toNatClampNeg from by omega, txH_s w0 w1 w2 w3 rfl (by omega) (by omega) (by omega)] at D
    exact D
  have T0 := jTt_0 hn2 (by omega) (by omega) (by omega) (by omega) w0 w1 w2 w3
  have E5 : ∀ hx9, jWk jpb h hx9 → (∀ j, jiv hx9 147 j = jiv h 147 j) ∧ (∀ j, jiv hx9 148 j = jiv h 148 j) ∧ ∀ j, jiv hx9 149 j = jiv h 149 j := fun hx9 w => ⟨fun j => w.2.2.2.1 147 j rfl, fun j => w.2.2.2.1 148 j rfl, fun j => w.2.2.2.1 149 j rfl⟩
  have l5e : l5.toInt = 18820 + 924 * n.toInt := by omega
  refine jX.sub (jsb_c rfl (jsb_c rfl (jsb_c rfl jsb_n))) (tx_216D (h1 := h) (V0 := vw hd) hW E5 f1 hn2 l5e e7 e9 rfl (fun l6 h3 c1 c2 T z7 z9 J3 S3 X3 => ?_) 121 0 hd (by have := jk_0; omega) (jr_of jk_0 (by omega)) (by rw [z0]; exact T0) (jmo w3 rfl (jmo w2 rfl (jmo w1 rfl (jmo w0 rfl q7a)))) (jmo w3 rfl (jmo w2 rfl (jmo w1 rfl (jmo w0 rfl q9a)))) J Sm (by rw [z0]; rfl))
  have k6 := jcl_of (d := l6) (by omega)
  refine x_iconst (v := 0) rfl ki_0 ?_
  refine x_istore (lsx9 := [(6, .int 0), (0, .ref 125), (5, .int l5)]) rfl rfl rfl ?_
  refine jX.sub (jsb_c rfl (jsb_c rfl (jsb_c rfl jsb_n))) (tx_256D (h1 := h) (V0 := vw h3) hW E5 f1 hn2 l5e e7 e9 rfl (k1 := l6.toNatClampNeg) (by omega) (fun l7 h4 c3 c4 T4 y7 y9 J4 S4 X4 => ?_) 401 0 h3 (by have := jk_0; omega) (jr_of jk_0 (by omega)) (by rw [z0]; exact T) z7 z9 J3 S3 (by rw [z0]; rfl))
  have k7 := jcl_of (d := l7) (by omega)
  have kn := jcl_of hn2.1
  have kg7 := jcl_of e7.1
  have kg9 := jcl_of e9.1
  rw [show (10 * g7.toInt).toNat = l6.toNatClampNeg from by omega, ← X3, show g9.toInt.toNat = l7.toNatClampNeg from by omega, ← X4] at D
  have nK : jnK h = g7.toNatClampNeg := by unfold jnK; rw [q7a]
  have nC : jnC h = g9.toNatClampNeg := by unfold jnC; rw [q9a]
  have G := K.2.2.resolve_left (by rw [qb]; omega)
  have B := jTt_B (hD.2.2.2.1 h J0.2.2) J4.2.2 (by omega) T4 (by omega) (by omega) (by omega) G
  have J5 := jWk_back hD J0 jpb_hi rfl J4 B
  have rr : ∀ (c : Int32) (v : Int32), 0 ≤ c.toInt → c.toInt < 18820 → jiv h 126 c.toNatClampNeg = v → jiv h4 126 c.toNatClampNeg = v := fun c v c1 c2 q => by
    have := jcl_of c1
    rw [T4.2.2.2 _ (by omega)]
    exact q
  exact tx_317D hD J5 S4 f2 f3 f4 f5 (rr 16 _ (by decide) (by decide) q16) (rr 0 _ (by decide) (by decide) q0) (rr 4 _ (by decide) (by decide) q4) (rr 5 _ (by decide) (by decide) q5) (rr 7 _ (by decide) (by decide) q7) hn2 hn.2.2 hr D hQ
theorem vuC_0 {W : jW} {a b i j l : Nat} (e : l = 0) : W = vuC W a b i j l := by
  subst e
  refine Prod.ext (funext fun c => funext fun m => ?_) rfl
  show W.1 c m = if c = b ∧ j ≤ m ∧ m < j + 0 then W.1 a (i + (m - j)) else W.1 c m
  rw [if_neg (by omega)]
theorem vuC_s {T : jW} {a b i j l p : Nat} {h hx9 : jH} {x : Int32} (X : vw h = vuC T a b i j l) (w : hx9 = jsi h b p x) (hp : p = j + l) (hx : T.1 a (i + l) = x.toInt) : vw hx9 = vuC T a b i j (l + 1) := by
  rw [← vwf w rfl, X, hp, ← hx]
  refine Prod.ext (funext fun c => funext fun m => ?_) rfl
  show (if c = b ∧ m = j + l then T.1 a (i + l) else if c = b ∧ j ≤ m ∧ m < j + l then T.1 a (i + (m - j)) else T.1 c m) = if c = b ∧ j ≤ m ∧ m < j + (l + 1) then T.1 a (i + (m - j)) else T.1 c m
  by_cases y : c = b ∧ m = j + l
  · rw [if_pos y, if_pos ⟨y.1, by omega, by omega⟩, show m - j = l from by omega]
  · rw [if_neg y]
    by_cases z : c = b ∧ j ≤ m ∧ m < j + l
    · rw [if_pos z, if_pos ⟨z.1, by omega, by omega⟩]
    · rw [if_neg z, if_neg (fun u => by
        by_cases v : m = j + l
        · exact y ⟨u.1, v⟩
        · exact z ⟨u.1, u.2.1, by omega⟩)]
set_option maxRecDepth 100000 in
set_option maxHeartbeats 4000000 in
theorem im_25D {h0 h1 : jH} {Q : Option Value → jH → Prop} {FP : jFp} {l1 : Int32} (hf : FP.contains (127, 0, 202640) = true) (hl : 0 ≤ l1.toInt ∧ l1.toInt ≤ 3) (hK : ∀ (l2 : Int32) (h : jH), jIm h1 h l1 50660 → jJ jSgM (jWk jpi h1) h → jSm FP h0 h → vw h = vuC (vw h1) 126 127 0 (50660 * l1.toNatClampNeg) 50660 → jX m_X12_image 2 0 0 54 [(0, .ref 125), (1, .int l1), (2, .int l2)] [] h 0 0 Q) : ∀ r : Nat, ∀ (l2 : Int32) (h : jH), 50660 - l2.toInt < (r : Int) → 0 ≤ l2.toInt ∧ l2.toInt ≤ 50660 → jIm h1 h l1 l2.toInt → jJ jSgM (jWk jpi h1) h → jSm FP h0 h → vw h = vuC (vw h1) 126 127 0 (50660 * l1.toNatClampNeg) l2.toNatClampNeg → jX m_X12_image 2 0 0 25 [(0, .ref 125), (1, .int l1), (2, .int l2)] [] h 0 0 Q := by
  intro r
  induction r with
  | zero =>
    intro l2 h hm y1 T J Sm X
    exfalso
    omega
  | succ r ih =>
    intro l2 h hm y1 T J Sm X
    refine x_iloadn (x := l2) rfl rfl ?_
    refine x_ldc (v := 50660) rfl z_12_7 ?_
    refine x_icge (tgt := 54) rfl rfl (ti_ge rfl jk_50660 ⟨fun c1 => ?_, fun c1 => ?_⟩)
    ·
      exact hK l2 h (by rw [show (50660 : Int) = l2.toInt from by omega]; exact T) J Sm (by rw [X, show l2.toNatClampNeg = 50660 from by have := jcl_of y1.1; omega])
    ·
      refine x_aloadn (x := 125) rfl rfl ?_
      refine z_getR (N := 92) (b := 127) 12 3 rfl f_12_15 rfl J rfl 16003 ⟨rfl, rfl⟩ rfl ?_
      refine x_ldc (v := 50660) rfl z_12_7 ?_
      refine x_iloadn (x := l1) rfl rfl ?_
      refine z_imul rfl jk_50660 rfl (by omega) (fun v2 ev2 => ?_)
      refine x_iloadn (x := l2) rfl rfl ?_
      refine z_iadd rfl rfl rfl (by omega) (fun v3 ev3 => ?_)
      refine x_aloadn (x := 125) rfl rfl ?_
      refine z_getR (N := 92) (b := 126) 12 2 rfl f_12_8 rfl J rfl 16002 ⟨rfl, rfl⟩ rfl ?_
      refine x_iloadn (x := l2) rfl rfl ?_
      refine z_iald0 (N := 50660) rfl J rfl rfl (by omega) (fun v4 qv4 => ?_)
      have e := fun j => J.2.2.2.2.2.1 126 j rfl
      refine zw_iast (N := 202640) (l := 0) (u := 202640) (w := v4.toInt) rfl jWk_d J Sm rfl rfl rfl rfl (by omega) rfl (wr_127) hf (fun h w5 J Sm => ?_)
      refine z_iinc (x := l2) (lsx9 := fun v6 => [(2, .int v6), (0, .ref 125), (1, .int l1)]) rfl rfl rfl jko_1 (by omega) rfl (fun _ => rfl) (fun v6 ev6 => ?_)
      refine x_goto (tgt := 25) rfl rfl ?_
      exact jX.sub (jsb_c rfl (jsb_c rfl (jsb_c rfl jsb_n))) (ih v6 h (by omega) (jr_of rfl (by omega)) (jIm_s (l := l2) T hl.1 (by omega) (by omega) e qv4 w5 ev6) J Sm (by
        rw [jcl_s (v := v6) (l := l2) ⟨ev6, y1.1⟩]
        have k2 := jcl_of y1.1
        have k1 := jcl_of hl.1
        have k3 := jcl_of (d := v3) (by omega)
        exact vuC_s X w5 (by omega) (by rw [Nat.zero_add]; exact congrArg Int32.toInt ((e _).symm.trans qv4))))
theorem im_loopD {Dy : jH → Prop} {h0 h : jH} {Q : Option Value → jH → Prop} {FP : jFp} {l1 l2 : Int32} (hI : jDi Dy) (hR : jRr h) (J : jJ jSgM Dy h) (Sm : jSm FP h0 h) (hf : jfs [(127, 0, 202640)] FP = true) (hl : 0 ≤ l1.toInt ∧ l1.toInt ≤ 3) (h2 : l2.toInt = 0) (hK : ∀ (v : Int32) hx9, jJ jSgM Dy hx9 → jSm FP h0 hx9 → jSm [(127, 0, 202640)] h hx9 → imC l1.toInt.toNat (vw h) = vw hx9 → jX m_X12_image 2 0 0 54 [(0, .ref 125), (1, .int l1), (2, .int v)] [] hx9 0 0 Q) : jX m_X12_image 2 0 0 25 [(0, .ref 125), (1, .int l1), (2, .int l2)] [] h 0 0 Q :=
  im_25D (h1 := h) (h0 := h) (FP := [(127, 0, 202640)]) rfl hl (fun v hx9 T J' S' X => hK v hx9 ⟨J'.1, J'.2.1, hI h hx9 l1 hl J.2.1 hR J.2.2 J'.2.2 T⟩ (jSm_tr hf Sm S') S' (by rw [X]; rfl)) 50661 l2 h (by omega) (by omega) (jIm_0 h2) (jWk_in J) (jSm_rf _ h) (vuC_0 (by have := jcl_of (d := l2) (by omega); omega))
set_option maxRecDepth 100000 in
set_option maxHeartbeats 4000000 in
theorem bk_41D {h0 h1 : jH} {Q : Option Value → jH → Prop} {FP : jFp} {l1 : Int32} (hf : FP.contains (126, 0, 50660) = true) (hl : 0 ≤ l1.toInt ∧ l1.toInt ≤ 3) (R : jRw (fun i => jiv h1 127 (50660 * l1.toNatClampNeg + i))) (hK : ∀ (l2 : Int32) (h : jH), jBm h1 h l1 50660 → jJ jSgM (jWk jpb h1) h → jSm FP h0 h → vw h = vuC (vw h1) 127 126 (50660 * l1.toNatClampNeg) 0 50660 → jX m_X12_back 2 0 0 70 [(0, .ref 125), (1, .int l1), (2, .int l2)] [] h 0 0 Q) : ∀ r : Nat, ∀ (l2 : Int32) (h : jH), 50660 - l2.toInt < (r : Int) → 0 ≤ l2.toInt ∧ l2.toInt ≤ 50660 → jBm h1 h l1 l2.toInt → jJ jSgM (jWk jpb h1) h → jSm FP h0 h → vw h = vuC (vw h1) 127 126 (50660 * l1.toNatClampNeg) 0 l2.toNatClampNeg → jX m_X12_back 2 0 0 41 [(0, .ref 125), (1, .int l1), (2, .int l2)] [] h 0 0 Q := by
  intro r
  induction r with
  | zero =>
    intro l2 h hm y1 T J Sm X
    exfalso
    omega
  | succ r ih =>
    intro l2 h hm y1 T J Sm X
    refine x_iloadn (x := l2) rfl rfl ?_
    refine x_ldc (v := 50660) rfl z_12_7 ?_
    refine x_icge (tgt := 70) rfl rfl (ti_ge rfl jk_50660 ⟨fun c1 => ?_, fun c1 => ?_⟩)
    ·
      exact hK l2 h (by rw [show (50660 : Int) = l2.toInt from by omega]; exact T) J Sm (by rw [X, show l2.toNatClampNeg = 50660 from by have := jcl_of y1.1; omega])
    ·
      refine x_aloadn (x := 125) rfl rfl ?_
      refine z_getR (N := 92) (b := 126) 12 2 rfl f_12_8 rfl J rfl 16002 ⟨rfl, rfl⟩ rfl ?_
      refine x_iloadn (x := l2) rfl rfl ?_
      refine x_aloadn (x := 125) rfl rfl ?_
      refine z_getR (N := 92) (b := 127) 12 3 rfl f_12_15 rfl J rfl 16003 ⟨rfl, rfl⟩ rfl ?_
      refine x_ldc (v := 50660) rfl z_12_7 ?_
      refine x_iloadn (x := l1) rfl rfl ?_
      refine z_imul rfl jk_50660 rfl (by omega) (fun v2 ev2 => ?_)
      refine x_iloadn (x := l2) rfl rfl ?_
      refine z_iadd rfl rfl rfl (by omega) (fun v3 ev3 => ?_)
      refine z_iald0 (N := 202640) rfl J rfl rfl (by omega) (fun v4 qv4 => ?_)
      have e := fun j => J.2.2.2.2.2.1 127 j rfl
      refine zw_iast (N := 50660) (l := 0) (u := 50660) (w := v4.toInt) rfl jWk_d J Sm rfl rfl rfl rfl (by omega) rfl (bk_wr R hl.1 (by omega) (by omega) e qv4) hf (fun h w5 J Sm => ?_)
      refine z_iinc (x := l2) (lsx9 := fun v6 => [(2, .int v6), (0, .ref 125), (1, .int l1)]) rfl rfl rfl jko_1 (by omega) rfl (fun _ => rfl) (fun v6 ev6 => ?_)
      refine x_goto (tgt := 41) rfl rfl ?_
      exact jX.sub (jsb_c rfl (jsb_c rfl (jsb_c rfl jsb_n))) (ih v6 h (by omega) (jr_of rfl (by omega)) (jBm_s (l := l2) T hl.1 (by omega) (by omega) e qv4 w5 ev6) J Sm (by
        rw [jcl_s (v := v6) (l := l2) ⟨ev6, y1.1⟩]
        have k2 := jcl_of y1.1
        have k1 := jcl_of hl.1
        have k3 := jcl_of (d := v3) (by omega)
        exact vuC_s X w5 (by omega) (by rw [show 50660 * l1.toNatClampNeg + l2.toNatClampNeg = v3.toNatClampNeg from by omega]; exact congrArg Int32.toInt ((e _).symm.trans qv4))))
theorem bk_loopD {Dy : jH → Prop} {h0 h : jH} {Q : Option Value → jH → Prop} {FP : jFp} {l1 l2 : Int32} (hD : jDk Dy) (hB : jDb Dy) (J : jJ jSgM Dy h) (Sm : jSm FP h0 h) (hf : jfs [(126, 0, 50660)] FP = true) (hl : 0 ≤ l1.toInt ∧ l1.toInt ≤ 3) (h2 : l2.toInt = 0) (hK : ∀ (v : Int32) hx9, jJ jSgM Dy hx9 → jSm FP h0 hx9 → jSm [(126, 0, 50660)] h hx9 → jRr hx9 → bkC l1.toInt.toNat (vw h) = vw hx9 → jX m_X12_back 2 0 0 70 [(0, .ref 125), (1, .int l1), (2, .int v)] [] hx9 0 0 Q) : jX m_X12_back 2 0 0 41 [(0, .ref 125), (1, .int l1), (2, .int l2)] [] h 0 0 Q := by
  have a := jcl_of hl.1
  have R := hB h J.2.2 l1.toNatClampNeg (by omega)
  refine bk_41D (h1 := h) (h0 := h) (FP := [(126, 0, 50660)]) rfl hl R (fun v hx9 T J' S' X => ?_) 50661 l2 h (by omega) (by omega) (fun j hj => by omega) (jWk_in J) (jSm_rf _ h) (vuC_0 (by have := jcl_of (d := l2) (by omega); omega))
  have B := jBm_B (hD.2.2.2.1 h J.2.2) R hl J'.2.2 T
  refine hK v hx9 (jWk_back hD J jpb_hi rfl J' B) (jSm_tr hf Sm S') S' (jRr_of ?_ ?_) (by rw [X]; rfl)
  · have r := R.2.1
    simp only at r
    rw [T 16 (by omega), T 0 (by omega), T 4 (by omega), T 5 (by omega), T 7 (by omega)]
    exact r
  · have r := R.2.2
    simp only at r
    rw [T 9 (by omega), T 7 (by omega)]
    exact r
