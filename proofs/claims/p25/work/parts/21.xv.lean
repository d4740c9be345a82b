def fp_X9_wordOf_r68_r15 : jFp := []
set_option maxRecDepth 100000 in
set_option maxHeartbeats 4000000 in
theorem ct_X9_wordOf_r68_r15_110 {Dy : jH → Prop} {h0 : jH} {Q : Option Value → jH → Prop} {R23 : Int} (hD : jDk Dy) (hQ : ∀ (v : Int32) hx9, jJ jSgX Dy hx9 → jSm fp_X9_wordOf_r68_r15 h0 hx9 → Q (some (.int v)) hx9) (k23 : ∀ (l2 : Int32) (l3 : Int32) (l4 : Int32) (l5 : Int32) (g0 : Int32) (h : jH), 34 - l5.toInt < R23 → 0 ≤ l3.toInt ∧ l3.toInt ≤ 434 → 0 ≤ l4.toInt ∧ l4.toInt ≤ 1 → 0 ≤ l5.toInt ∧ l5.toInt ≤ 34 → 0 ≤ g0.toInt ∧ g0.toInt ≤ 400 → l3.toInt - l5.toInt ≤ 400 → jiv h 68 3 = g0 → jJ jSgX Dy h → jSm fp_X9_wordOf_r68_r15 h0 h → jX m_X9_wordOf 4 0 0 23 [(0, .ref 68), (1, .ref 15), (2, .int l2), (3, .int l3), (4, .int l4), (5, .int l5)] [] h 0 0 Q) : ∀ (l2 : Int32) (l3 : Int32) (l4 : Int32) (l5 : Int32) (g0 : Int32) (h : jH), 0 ≤ l3.toInt ∧ l3.toInt ≤ 434 → 0 ≤ l4.toInt ∧ l4.toInt ≤ 1 → 0 ≤ l5.toInt ∧ l5.toInt ≤ 33 → 0 ≤ g0.toInt ∧ g0.toInt ≤ 400 → l3.toInt - l5.toInt ≤ 401 → jiv h 68 3 = g0 → 34 - l5.toInt ≤ R23 → jJ jSgX Dy h → jSm fp_X9_wordOf_r68_r15 h0 h → jX m_X9_wordOf 4 0 0 110 [(0, .ref 68), (1, .ref 15), (2, .int l2), (3, .int l3), (4, .int l4), (5, .int l5)] [] h 0 0 Q := by
  intro l2 l3 l4 l5 g0 h y0 y1 y2 y3 y4 z0 m23 J Sm
  have el2 := jfull l2
  refine z_iinc (x := l5) (lsx9 := fun v1 => [(5, .int v1), (0, .ref 68), (1, .ref 15), (2, .int l2), (3, .int l3), (4, .int l4)]) rfl rfl rfl jko_1 (by omega) rfl (fun _ => rfl) (fun v1 ev1 => ?_)
  refine x_goto (tgt := 23) rfl rfl ?_
  exact jX.sub (jsb_c rfl (jsb_c rfl (jsb_c rfl (jsb_c rfl (jsb_c rfl (jsb_c rfl jsb_n)))))) (k23 l2 l3 l4 v1 g0 h (by omega) (jr_of rfl (by omega)) (jr_of rfl (by omega)) (jr_of rfl (by omega)) (jr_of rfl (by omega)) (by omega) z0 J Sm)
set_option maxRecDepth 100000 in
set_option maxHeartbeats 4000000 in
theorem ct_X9_wordOf_r68_r15_300105 {Dy : jH → Prop} {h0 : jH} {Q : Option Value → jH → Prop} {R23 : Int} (hD : jDk Dy) (hQ : ∀ (v : Int32) hx9, jJ jSgX Dy hx9 → jSm fp_X9_wordOf_r68_r15 h0 hx9 → Q (some (.int v)) hx9) (k23 : ∀ (l2 : Int32) (l3 : Int32) (l4 : Int32) (l5 : Int32) (g0 : Int32) (h : jH), 34 - l5.toInt < R23 → 0 ≤ l3.toInt ∧ l3.toInt ≤ 434 → 0 ≤ l4.toInt ∧ l4.toInt ≤ 1 → 0 ≤ l5.toInt ∧ l5.toInt ≤ 34 → 0 ≤ g0.toInt ∧ g0.toInt ≤ 400 → l3.toInt - l5.toInt ≤ 400 → jiv h 68 3 = g0 → jJ jSgX Dy h → jSm fp_X9_wordOf_r68_r15 h0 h → jX m_X9_wordOf 4 0 0 23 [(0, .ref 68), (1, .ref 15), (2, .int l2), (3, .int l3), (4, .int l4), (5, .int l5)] [] h 0 0 Q) : ∀ (l2 : Int32) (l3 : Int32) (l5 : Int32) (g0 : Int32) (h : jH), 0 ≤ l3.toInt ∧ l3.toInt ≤ 399 → 0 ≤ l5.toInt ∧ l5.toInt ≤ 33 → 0 ≤ g0.toInt ∧ g0.toInt ≤ 400 → l3.toInt - l5.toInt ≤ 400 → jiv h 68 3 = g0 → 34 - l5.toInt ≤ R23 → jJ jSgX Dy h → jSm fp_X9_wordOf_r68_r15 h0 h → jX m_X9_wordOf 4 0 0 105 [(0, .ref 68), (1, .ref 15), (2, .int l2), (3, .int l3), (5, .int l5)] [.int 1] h 0 0 Q := by
  intro l2 l3 l5 g0 h y0 y1 y2 y3 z0 m23 J Sm
  have el2 := jfull l2
  refine x_istore (lsx9 := [(4, .int 1), (0, .ref 68), (1, .ref 15), (2, .int l2), (3, .int l3), (5, .int l5)]) rfl rfl rfl ?_
  refine z_iinc (x := l3) (lsx9 := fun v1 => [(3, .int v1), (4, .int 1), (0, .ref 68), (1, .ref 15), (2, .int l2), (5, .int l5)]) rfl rfl rfl jko_1 (by omega) rfl (fun _ => rfl) (fun v1 ev1 => ?_)
  exact jX.sub (jsb_c rfl (jsb_c rfl (jsb_c rfl (jsb_c rfl (jsb_c rfl (jsb_c rfl jsb_n)))))) (ct_X9_wordOf_r68_r15_110 hD hQ k23 l2 v1 1 l5 g0 h (jr_of rfl (by omega)) (jr_of jk_1 (by omega)) (jr_of rfl (by omega)) (jr_of rfl (by omega)) (by omega) z0 (by omega) J Sm)
set_option maxRecDepth 100000 in
set_option maxHeartbeats 4000000 in
theorem ct_X9_wordOf_r68_r15_200105 {Dy : jH → Prop} {h0 : jH} {Q : Option Value → jH → Prop} {R23 : Int} (hD : jDk Dy) (hQ : ∀ (v : Int32) hx9, jJ jSgX Dy hx9 → jSm fp_X9_wordOf_r68_r15 h0 hx9 → Q (some (.int v)) hx9) (k23 : ∀ (l2 : Int32) (l3 : Int32) (l4 : Int32) (l5 : Int32) (g0 : Int32) (h : jH), 34 - l5.toInt < R23 → 0 ≤ l3.toInt ∧ l3.toInt ≤ 434 → 0 ≤ l4.toInt ∧ l4.toInt ≤ 1 → 0 ≤ l5.toInt ∧ l5.toInt ≤ 34 → 0 ≤ g0.toInt ∧ g0.toInt ≤ 400 → l3.toInt - l5.toInt ≤ 400 → jiv h 68 3 = g0 → jJ jSgX Dy h → jSm fp_X9_wordOf_r68_r15 h0 h → jX m_X9_wordOf 4 0 0 23 [(0, .ref 68), (1, .ref 15), (2, .int l2), (3, .int l3), (4, .int l4), (5, .int l5)] [] h 0 0 Q) : ∀ (l2 : Int32) (l3 : Int32) (l5 : Int32) (g0 : Int32) (h : jH), 0 ≤ l3.toInt ∧ l3.toInt ≤ 433 → 0 ≤ l5.toInt ∧ l5.toInt ≤ 33 → 0 ≤ g0.toInt ∧ g0.toInt ≤ 400 → l3.toInt - l5.toInt ≤ 400 → jiv h 68 3 = g0 → 34 - l5.toInt ≤ R23 → jJ jSgX Dy h → jSm fp_X9_wordOf_r68_r15 h0 h → jX m_X9_wordOf 4 0 0 105 [(0, .ref 68), (1, .ref 15), (2, .int l2), (3, .int l3), (5, .int l5)] [.int 0] h 0 0 Q := by
  intro l2 l3 l5 g0 h y0 y1 y2 y3 z0 m23 J Sm
  have el2 := jfull l2
  refine x_istore (lsx9 := [(4, .int 0), (0, .ref 68), (1, .ref 15), (2, .int l2), (3, .int l3), (5, .int l5)]) rfl rfl rfl ?_
  refine z_iinc (x := l3) (lsx9 := fun v1 => [(3, .int v1), (4, .int 0), (0, .ref 68), (1, .ref 15), (2, .int l2), (5, .int l5)]) rfl rfl rfl jko_1 (by omega) rfl (fun _ => rfl) (fun v1 ev1 => ?_)
  exact jX.sub (jsb_c rfl (jsb_c rfl (jsb_c rfl (jsb_c rfl (jsb_c rfl (jsb_c rfl jsb_n)))))) (ct_X9_wordOf_r68_r15_110 hD hQ k23 l2 v1 0 l5 g0 h (jr_of rfl (by omega)) (jr_of jk_0 (by omega)) (jr_of rfl (by omega)) (jr_of rfl (by omega)) (by omega) z0 (by omega) J Sm)
set_option maxRecDepth 100000 in
set_option maxHeartbeats 4000000 in
theorem ct_X9_wordOf_r68_r15_104 {Dy : jH → Prop} {h0 : jH} {Q : Option Value → jH → Prop} {R23 : Int} (hD : jDk Dy) (hQ : ∀ (v : Int32) hx9, jJ jSgX Dy hx9 → jSm fp_X9_wordOf_r68_r15 h0 hx9 → Q (some (.int v)) hx9) (k23 : ∀ (l2 : Int32) (l3 : Int32) (l4 : Int32) (l5 : Int32) (g0 : Int32) (h : jH), 34 - l5.toInt < R23 → 0 ≤ l3.toInt ∧ l3.toInt ≤ 434 → 0 ≤ l4.toInt ∧ l4.toInt ≤ 1 → 0 ≤ l5.toInt ∧ l5.toInt ≤ 34 → 0 ≤ g0.toInt ∧ g0.toInt ≤ 400 → l3.toInt - l5.toInt ≤ 400 → jiv h 68 3 = g0 → jJ jSgX Dy h → jSm fp_X9_wordOf_r68_r15 h0 h → jX m_X9_wordOf 4 0 0 23 [(0, .ref 68), (1, .ref 15), (2, .int l2), (3, .int l3), (4, .int l4), (5, .int l5)] [] h 0 0 Q) : ∀ (l2 : Int32) (l3 : Int32) (l5 : Int32) (g0 : Int32) (h : jH), 0 ≤ l3.toInt ∧ l3.toInt ≤ 433 → 0 ≤ l5.toInt ∧ l5.toInt ≤ 33 → 0 ≤ g0.toInt ∧ g0.toInt ≤ 400 → l3.toInt - l5.toInt ≤ 400 → jiv h 68 3 = g0 → 34 - l5.toInt ≤ R23 → jJ jSgX Dy h → jSm fp_X9_wordOf_r68_r15 h0 h → jX m_X9_wordOf 4 0 0 104 [(0, .ref 68), (1, .ref 15), (2, .int l2), (3, .int l3), (5, .int l5)] [] h 0 0 Q := by
  intro l2 l3 l5 g0 h y0 y1 y2 y3 z0 m23 J Sm
  have el2 := jfull l2
  refine x_iconst (v := 0) rfl ki_0 ?_
  exact jX.sub (jsb_c rfl (jsb_c rfl (jsb_c rfl (jsb_c rfl (jsb_c rfl jsb_n))))) (ct_X9_wordOf_r68_r15_200105 hD hQ k23 l2 l3 l5 g0 h (jr_of rfl (by omega)) (jr_of rfl (by omega)) (jr_of rfl (by omega)) (by omega) z0 (by omega) J Sm)
set_option maxRecDepth 100000 in
set_option maxHeartbeats 4000000 in
theorem ct_X9_wordOf_r68_r15_62 {Dy : jH → Prop} {h0 : jH} {Q : Option Value → jH → Prop} {R23 : Int} (hD : jDk Dy) (hQ : ∀ (v : Int32) hx9, jJ jSgX Dy hx9 → jSm fp_X9_wordOf_r68_r15 h0 hx9 → Q (some (.int v)) hx9) (k23 : ∀ (l2 : Int32) (l3 : Int32) (l4 : Int32) (l5 : Int32) (g0 : Int32) (h : jH), 34 - l5.toInt < R23 → 0 ≤ l3.toInt ∧ l3.toInt ≤ 434 → 0 ≤ l4.toInt ∧ l4.toInt ≤ 1 → 0 ≤ l5.toInt ∧ l5.toInt ≤ 34 → 0 ≤ g0.toInt ∧ g0.toInt ≤ 400 → l3.toInt - l5.toInt ≤ 400 → jiv h 68 3 = g0 → jJ jSgX Dy h → jSm fp_X9_wordOf_r68_r15 h0 h → jX m_X9_wordOf 4 0 0 23 [(0, .ref 68), (1, .ref 15), (2, .int l2), (3, .int l3), (4, .int l4), (5, .int l5)] [] h 0 0 Q) : ∀ (l2 : Int32) (l5 : Int32) (g0 : Int32) (h : jH), 0 ≤ l5.toInt ∧ l5.toInt ≤ 33 → 0 ≤ g0.toInt ∧ g0.toInt ≤ 400 → jiv h 68 3 = g0 → 34 - l5.toInt ≤ R23 → jJ jSgX Dy h → jSm fp_X9_wordOf_r68_r15 h0 h → jX m_X9_wordOf 4 0 0 62 [(0, .ref 68), (1, .ref 15), (2, .int l2), (5, .int l5)] [] h 0 0 Q := by
  intro l2 l5 g0 h y0 y1 z0 m23 J Sm
  have el2 := jfull l2
  refine z_iinc0 (x := l2) (lsx9 := fun v1 => [(2, .int v1), (0, .ref 68), (1, .ref 15), (5, .int l5)]) rfl rfl rfl (fun _ => rfl) (fun v1 => ?_)
  have ev1 := jfull v1
  refine x_aloadn (x := 68) rfl rfl ?_
  refine z_getM (N := 6) (v := g0) 9 3 rfl f_9_22 rfl J rfl z0 ?_
  refine x_istoren (lsx9 := [(3, .int g0), (2, .int v1), (0, .ref 68), (1, .ref 15), (5, .int l5)]) rfl rfl rfl ?_
  refine x_iconst (v := 1) rfl ki_1 ?_
  refine x_istore (lsx9 := [(4, .int 1), (3, .int g0), (2, .int v1), (0, .ref 68), (1, .ref 15), (5, .int l5)]) rfl rfl rfl ?_
  refine x_goto (tgt := 110) rfl rfl ?_
  exact jX.sub (jsb_c rfl (jsb_c rfl (jsb_c rfl (jsb_c rfl (jsb_c rfl (jsb_c rfl jsb_n)))))) (ct_X9_wordOf_r68_r15_110 hD hQ k23 v1 g0 1 l5 g0 h (jr_of rfl (by omega)) (jr_of jk_1 (by omega)) (jr_of rfl (by omega)) (jr_of rfl (by omega)) (by omega) z0 (by omega) J Sm)
set_option maxRecDepth 100000 in
set_option maxHeartbeats 4000000 in
theorem ct_X9_wordOf_r68_r15_23 {Dy : jH → Prop} {h0 : jH} {Q : Option Value → jH → Prop} (hD : jDk Dy) (hQ : ∀ (v : Int32) hx9, jJ jSgX Dy hx9 → jSm fp_X9_wordOf_r68_r15 h0 hx9 → Q (some (.int v)) hx9) : ∀ r : Nat, ∀ (l2 : Int32) (l3 : Int32) (l4 : Int32) (l5 : Int32) (g0 : Int32) (h : jH), 34 - l5.toInt < (r : Int) → 0 ≤ l3.toInt ∧ l3.toInt ≤ 434 → 0 ≤ l4.toInt ∧ l4.toInt ≤ 1 → 0 ≤ l5.toInt ∧ l5.toInt ≤ 34 → 0 ≤ g0.toInt ∧ g0.toInt ≤ 400 → l3.toInt - l5.toInt ≤ 400 → jiv h 68 3 = g0 → jJ jSgX Dy h → jSm fp_X9_wordOf_r68_r15 h0 h → jX m_X9_wordOf 4 0 0 23 [(0, .ref 68), (1, .ref 15), (2, .int l2), (3, .int l3), (4, .int l4), (5, .int l5)] [] h 0 0 Q := by
  intro r
  induction r with
  | zero =>
    intro l2 l3 l4 l5 g0 h hm y0 y1 y2 y3 y4 z0  J Sm
    exfalso
    have el2 := jfull l2
    omega
  | succ r ih =>
    intro l2 l3 l4 l5 g0 h hm y0 y1 y2 y3 y4 z0  J Sm
    have el2 := jfull l2
    refine x_iload (x := l5) rfl rfl ?_
    refine x_aloadn (x := 15) rfl rfl ?_
    refine x_invS (N := m_J0_length_8abf5) (i := 10) (As := []) (st := [.int l5]) (dx9 := 1) (by decide) rfl t_J0_length_8abf5 ⟨q_9_38, i_J0_length_8abf5.1, i_J0_length_8abf5.2⟩ rfl rfl (by decide) rfl rfl (zc_slen (N := 34) (v := 34) rfl J rfl rfl (by decide) ?_)
    show jX m_X9_wordOf 4 0 0 29 [(0, .ref 68), (1, .ref 15), (2, .int l2), (3, .int l3), (4, .int l4), (5, .int l5)] [.int 34, .int l5] _ 0 0 _
    refine x_icge (tgt := 116) rfl rfl (ti_ge rfl jk_34 ⟨fun c1 => ?_, fun c1 => ?_⟩)
    ·
      refine x_iconst (v := (-1)) rfl ki_m1 ?_
      refine x_iret rfl rfl ?_
      exact hQ _ _ J Sm
    ·
      refine x_aloadn (x := 15) rfl rfl ?_
      refine x_iload (x := l5) rfl rfl ?_
      refine x_invS (N := m_J0_charAt_5068e) (i := 10) (As := [.int l5]) (st := []) (dx9 := 3) (by decide) rfl t_J0_charAt_5068e ⟨q_9_43, i_J0_charAt_5068e.1, i_J0_charAt_5068e.2⟩ rfl rfl (by decide) rfl rfl (zc_schar (N := 34) rfl J rfl rfl rfl (by omega) (fun v2 ev2 => ?_))
      show jX m_X9_wordOf 4 0 0 38 [(0, .ref 68), (1, .ref 15), (2, .int l2), (3, .int l3), (4, .int l4), (5, .int l5)] [.int v2] _ 0 0 _
      refine x_istore (lsx9 := [(6, .int v2), (0, .ref 68), (1, .ref 15), (2, .int l2), (3, .int l3), (4, .int l4), (5, .int l5)]) rfl rfl rfl ?_
      refine x_iload (x := v2) rfl rfl ?_
      refine x_bipush (v := 32) rfl kb_32 ?_
      refine x_icne (tgt := 76) rfl rfl (ti_ne rfl jk_32 ⟨fun c3 => ?_, fun c3 => ?_⟩)
      ·
        refine x_iload (x := l4) rfl rfl ?_
        refine x_ifeq (tgt := 104) rfl rfl (ti_eq rfl jk_0 ⟨fun c4 => ?_, fun c4 => ?_⟩)
        ·
          exact jX.sub (jsb_c rfl (jsb_c rfl (jsb_c rfl (jsb_c rfl (jsb_c rfl jsb_n))))) (ct_X9_wordOf_r68_r15_104 hD hQ ih l2 l3 l5 g0 h (jr_of rfl (by omega)) (jr_of rfl (by omega)) (jr_of rfl (by omega)) (by omega) z0 (by omega) J Sm)
        ·
          refine x_iloadn (x := l3) rfl rfl ?_
          refine x_aloadn (x := 68) rfl rfl ?_
          refine z_getI (N := 6) 9 4 rfl f_9_25 rfl J rfl sg_68_4_5_1_0_1 (fun v5 qv5 ev5 => ?_)
          refine x_icge (tgt := 104) rfl rfl (ti_ge rfl rfl ⟨fun c6 => ?_, fun c6 => ?_⟩)
          ·
            exact jX.sub (jsb_c rfl (jsb_c rfl (jsb_c rfl (jsb_c rfl (jsb_c rfl jsb_n))))) (ct_X9_wordOf_r68_r15_104 hD hQ ih l2 l3 l5 g0 h (jr_of rfl (by omega)) (jr_of rfl (by omega)) (jr_of rfl (by omega)) (by omega) z0 (by omega) J Sm)
          ·
            refine x_aloadn (x := 68) rfl rfl ?_
            refine z_getR (N := 6) (b := 69) 9 0 rfl f_9_11 rfl J rfl 8704 ⟨rfl, rfl⟩ rfl ?_
            refine x_iloadn (x := l3) rfl rfl ?_
            refine z_iald (N := 400) rfl J rfl sg_69_0_400_1_0_1 rfl (by omega) (fun v7 qv7 ev7 => ?_)
            refine x_iload (x := v2) rfl rfl ?_
            refine x_icne (tgt := 104) rfl rfl (ti_ne rfl rfl ⟨fun c8 => ?_, fun c8 => ?_⟩)
            ·
              exact jX.sub (jsb_c rfl (jsb_c rfl (jsb_c rfl (jsb_c rfl (jsb_c rfl jsb_n))))) (ct_X9_wordOf_r68_r15_104 hD hQ ih l2 l3 l5 g0 h (jr_of rfl (by omega)) (jr_of rfl (by omega)) (jr_of rfl (by omega)) (by omega) z0 (by omega) J Sm)
            ·
              refine x_iconst (v := 1) rfl ki_1 ?_
              refine x_goto (tgt := 105) rfl rfl ?_
              exact jX.sub (jsb_c rfl (jsb_c rfl (jsb_c rfl (jsb_c rfl (jsb_c rfl jsb_n))))) (ct_X9_wordOf_r68_r15_300105 hD hQ ih l2 l3 l5 g0 h (jr_of rfl (by omega)) (jr_of rfl (by omega)) (jr_of rfl (by omega)) (by omega) z0 (by omega) J Sm)
      ·
        refine x_iload (x := l4) rfl rfl ?_
        refine x_ifeq (tgt := 62) rfl rfl (ti_eq rfl jk_0 ⟨fun c9 => ?_, fun c9 => ?_⟩)
        ·
          exact jX.sub (jsb_c rfl (jsb_c rfl (jsb_c rfl (jsb_c rfl jsb_n)))) (ct_X9_wordOf_r68_r15_62 hD hQ ih l2 l5 g0 h (jr_of rfl (by omega)) (jr_of rfl (by omega)) z0 (by omega) J Sm)
        ·
          refine x_iloadn (x := l3) rfl rfl ?_
          refine x_aloadn (x := 68) rfl rfl ?_
          refine z_getI (N := 6) 9 4 rfl f_9_25 rfl J rfl sg_68_4_5_1_0_1 (fun v10 qv10 ev10 => ?_)
          refine x_icne (tgt := 62) rfl rfl (ti_ne rfl rfl ⟨fun c11 => ?_, fun c11 => ?_⟩)
          ·
            exact jX.sub (jsb_c rfl (jsb_c rfl (jsb_c rfl (jsb_c rfl jsb_n)))) (ct_X9_wordOf_r68_r15_62 hD hQ ih l2 l5 g0 h (jr_of rfl (by omega)) (jr_of rfl (by omega)) z0 (by omega) J Sm)
          ·
            refine x_iloadn (x := l2) rfl rfl ?_
            refine x_iret rfl rfl ?_
            exact hQ _ _ J Sm
set_option maxRecDepth 100000 in
set_option maxHeartbeats 4000000 in
theorem sf_X9_wordOf_r68_r15 {Dy : jH → Prop} {h : jH} {Q : Option Value → jH → Prop} (hD : jDk Dy) (J : jJ jSgX Dy h) (hQ : ∀ (v : Int32) hx9, jJ jSgX Dy hx9 → jSm fp_X9_wordOf_r68_r15 h hx9 → Q (some (.int v)) hx9) : jC m_X9_wordOf 4 0 0 [.ref 68, .ref 15] h Q := by
  refine jC.of rfl k_X9_wordOf rfl ?_
  have Sm := jSm_rf fp_X9_wordOf_r68_r15 h
  show jX m_X9_wordOf 4 0 0 0 [(0, .ref 68), (1, .ref 15)] [] _ 0 0 _
  refine x_aloadn (x := 68) rfl rfl ?_
  refine z_getI (N := 6) 9 5 rfl f_9_28 rfl J rfl sg_68_5_6_1_0_1 (fun v1 qv1 ev1 => ?_)
  refine x_iconst (v := 1) rfl ki_1 ?_
  refine x_iceq (tgt := 10) rfl rfl (ti_eq rfl jk_1 ⟨fun c2 => ?_, fun c2 => ?_⟩)
  ·
    refine x_iconst (v := 0) rfl ki_0 ?_
    refine x_istoren (lsx9 := [(2, .int 0), (0, .ref 68), (1, .ref 15)]) rfl rfl rfl ?_
    refine x_aloadn (x := 68) rfl rfl ?_
    refine z_getI (N := 6) 9 3 rfl f_9_22 rfl J rfl sg_68_3_4_1_0_1 (fun v3 qv3 ev3 => ?_)
    refine x_istoren (lsx9 := [(3, .int v3), (2, .int 0), (0, .ref 68), (1, .ref 15)]) rfl rfl rfl ?_
    refine x_iconst (v := 1) rfl ki_1 ?_
    refine x_istore (lsx9 := [(4, .int 1), (3, .int v3), (2, .int 0), (0, .ref 68), (1, .ref 15)]) rfl rfl rfl ?_
    refine x_iconst (v := 0) rfl ki_0 ?_
    refine x_istore (lsx9 := [(5, .int 0), (4, .int 1), (3, .int v3), (2, .int 0), (0, .ref 68), (1, .ref 15)]) rfl rfl rfl ?_
    exact jX.sub (jsb_c rfl (jsb_c rfl (jsb_c rfl (jsb_c rfl (jsb_c rfl (jsb_c rfl jsb_n)))))) (ct_X9_wordOf_r68_r15_23 hD hQ  35 0 v3 1 0 v3 h (by have := jk_0; omega) (jr_of rfl (by omega)) (jr_of jk_1 (by omega)) (jr_of jk_0 (by omega)) (jr_of rfl (by omega)) (by have := jk_0; omega) qv3 J Sm)
  ·
    refine x_iconst (v := (-1)) rfl ki_m1 ?_
    refine x_iret rfl rfl ?_
    exact hQ _ _ J Sm
def fp_X2_readPlain_r95_c8 : jFp := [(68, 2, 3), (68, 3, 4), (68, 4, 5), (68, 5, 6), (95, 4, 5), (95, 5, 6), (97, 0, 1200)]
set_option maxRecDepth 100000 in
set_option maxHeartbeats 4000000 in
theorem ct_X2_readPlain_r95_c8_239 {Dy : jH → Prop} {h0 : jH} {Q : Option Value → jH → Prop} (hD : jDk Dy) (hQ : ∀ (v : Int32) hx9, 0 ≤ v.toInt ∧ v.toInt ≤ 1 → jJ jSgX Dy hx9 → jSm fp_X2_readPlain_r95_c8 h0 hx9 → ∀ u0 u1 : Int32, jiv hx9 68 5 = u0 → jiv hx9 68 3 = u1 → (u0.toInt ≠ 3 ∨ u1.toInt ≤ 399) → Q (some (.int v)) hx9) : ∀ (g0 : Int32) (g1 : Int32) (h : jH), 0 ≤ g0.toInt ∧ g0.toInt ≤ 400 → 0 ≤ g1.toInt ∧ g1.toInt ≤ 3 → (g1.toInt ≠ 3 ∨ g0.toInt ≤ 399) → jiv h 68 3 = g0 → jiv h 68 5 = g1 → jJ jSgX Dy h → jSm fp_X2_readPlain_r95_c8 h0 h → jX m_X2_readPlain 7 0 0 239 [] [] h 0 0 Q := by
  intro g0 g1 h y0 y1 y2 z0 z1  J Sm
  refine x_iconst (v := 1) rfl ki_1 ?_
  refine x_zret rfl rfl (by decide) ?_
  exact hQ _ _ (jr_of jk_1 (by omega)) J Sm _ _ z1 z0 (by omega)
set_option maxRecDepth 100000 in
set_option maxHeartbeats 4000000 in
theorem ct_X2_readPlain_r95_c8_229 {Dy : jH → Prop} {h0 : jH} {Q : Option Value → jH → Prop} (hD : jDk Dy) (hQ : ∀ (v : Int32) hx9, 0 ≤ v.toInt ∧ v.toInt ≤ 1 → jJ jSgX Dy hx9 → jSm fp_X2_readPlain_r95_c8 h0 hx9 → ∀ u0 u1 : Int32, jiv hx9 68 5 = u0 → jiv hx9 68 3 = u1 → (u0.toInt ≠ 3 ∨ u1.toInt ≤ 399) → Q (some (.int v)) hx9) : ∀ (l2 : Int32) (g0 : Int32) (g1 : Int32) (h : jH), 0 ≤ l2.toInt ∧ l2.toInt ≤ 1 → 0 ≤ g0.toInt ∧ g0.toInt ≤ 400 → 0 ≤ g1.toInt ∧ g1.toInt ≤ 3 → (g1.toInt ≠ 3 ∨ g0.toInt ≤ 399) → jiv h 68 3 = g0 → jiv h 68 5 = g1 → jJ jSgX Dy h → jSm fp_X2_readPlain_r95_c8 h0 h → jX m_X2_readPlain 7 0 0 229 [(0, .ref 95), (2, .int l2)] [] h 0 0 Q := by
  intro l2 g0 g1 h y0 y1 y2 y3 z0 z1  J Sm
  refine x_iloadn (x := l2) rfl rfl ?_
  refine x_ifeq (tgt := 239) rfl rfl (ti_eq rfl jk_0 ⟨fun c1 => ?_, fun c1 => ?_⟩)
  ·
    exact jX.sub jsb_n (ct_X2_readPlain_r95_c8_239 hD hQ  g0 g1 h (jr_of rfl (by omega)) (jr_of rfl (by omega)) (by omega) z0 z1 J Sm)
  ·
    refine x_aloadn (x := 95) rfl rfl ?_
    refine x_bipush (v := 10) rfl kb_10 ?_
    refine x_inv (N := m_X2_emit) (As := [.int 10]) (b := 95) (st := []) (dx9 := 1) (mc := 0) (ms := 0) (host := "") 2 rfl t_X2_emit ⟨Or.inl q_2_89, i_X2_emit.1, i_X2_emit.2⟩ ⟨by decide, rfl⟩ (congrArg Prod.fst (J.1.1 95 (2, 6) rfl)) rfl (by decide) rfl rfl ⟨by decide, by decide⟩ (sf_X2_emit_r95  hD J  (fun h J S2 => ?_))
    have Sm := jSm_tr rfl Sm S2
    show jX m_X2_readPlain 7 0 0 239 [(0, .ref 95), (2, .int l2)] [] _ 0 0 _
    exact jX.sub jsb_n (ct_X2_readPlain_r95_c8_239 hD hQ  g0 g1 h (jr_of rfl (by omega)) (jr_of rfl (by omega)) (by omega) (jmc S2 rfl z0) (jmc S2 rfl z1) J Sm)
set_option maxRecDepth 100000 in
set_option maxHeartbeats 4000000 in
theorem ct_X2_readPlain_r95_c8_100190 {Dy : jH → Prop} {h0 : jH} {Q : Option Value → jH → Prop} (hD : jDk Dy) (hQ : ∀ (v : Int32) hx9, 0 ≤ v.toInt ∧ v.toInt ≤ 1 → jJ jSgX Dy hx9 → jSm fp_X2_readPlain_r95_c8 h0 hx9 → ∀ u0 u1 : Int32, jiv hx9 68 5 = u0 → jiv hx9 68 3 = u1 → (u0.toInt ≠ 3 ∨ u1.toInt ≤ 399) → Q (some (.int v)) hx9) : ∀ (l2 : Int32) (g0 : Int32) (g1 : Int32) (h : jH), 0 ≤ l2.toInt ∧ l2.toInt ≤ 1 → 0 ≤ g0.toInt ∧ g0.toInt ≤ 400 → 0 ≤ g1.toInt ∧ g1.toInt ≤ 3 → (g1.toInt ≠ 3 ∨ g0.toInt ≤ 399) → jiv h 68 3 = g0 → jiv h 68 5 = g1 → jJ jSgX Dy h → jSm fp_X2_readPlain_r95_c8 h0 h → jX m_X2_readPlain 7 0 0 190 [(0, .ref 95), (1, .int 8), (2, .int l2)] [.int (-1)] h 0 0 Q := by
  intro l2 g0 g1 h y0 y1 y2 y3 z0 z1  J Sm
  refine x_istore (lsx9 := [(4, .int (-1)), (0, .ref 95), (1, .int 8), (2, .int l2)]) rfl rfl rfl ?_
  refine x_iload (x := (-1)) rfl rfl ?_
  refine x_iconst (v := (-1)) rfl ki_m1 ?_
  refine x_icne (tgt := 206) rfl rfl (ti_ne jk_m1 jk_m1 (bn_f (by omega) ?_))
  refine x_aloadn (x := 95) rfl rfl ?_
  refine z_getR (N := 6) (b := 68) 2 0 rfl f_2_30 rfl J rfl 12160 ⟨rfl, rfl⟩ rfl ?_
  refine x_inv (N := m_X9_blame) (As := []) (b := 68) (st := []) (dx9 := 6) (mc := 0) (ms := 0) (host := "") 9 rfl t_X9_blame ⟨Or.inl q_2_59, i_X9_blame.1, i_X9_blame.2⟩ ⟨by decide, rfl⟩ (congrArg Prod.fst (J.1.1 68 (9, 6) rfl)) rfl (by decide) rfl rfl ⟨by decide, by decide⟩ (jC.of rfl k_X9_blame rfl ?_)
  show jX m_X9_blame 6 0 0 0 [(0, .ref 68)] [] _ 0 0 _
  refine x_aloadn (x := 68) rfl rfl ?_
  refine x_aloadn (x := 68) rfl rfl ?_
  refine z_getM (N := 6) (v := g0) 9 3 rfl f_9_22 rfl J rfl z0 ?_
  refine z_putI (N := 6) (w := g0.toInt) 9 2 rfl f_9_19 rfl (jfin_no TX9 RX9 6 rfl rfl) hD J Sm rfl rfl rfl (pw_68_2 (by omega)) rfl (fun h w1 J Sm => ?_)
  refine x_iconst (v := 0) rfl ki_0 ?_
  refine x_zret rfl rfl (by decide) ?_
  show jX m_X2_readPlain 7 0 0 205 [(4, .int (-1)), (0, .ref 95), (1, .int 8), (2, .int l2)] [.int 0] _ 0 0 _
  refine x_zret rfl rfl (by decide) ?_
  exact hQ _ _ (jr_of jk_0 (by omega)) J Sm _ _ (jmo w1 rfl z1) (jmo w1 rfl z0) (by omega)
set_option maxRecDepth 100000 in
set_option maxHeartbeats 4000000 in
theorem ct_X2_readPlain_r95_c8_190 {Dy : jH → Prop} {h0 : jH} {Q : Option Value → jH → Prop} (hD : jDk Dy) (hQ : ∀ (v : Int32) hx9, 0 ≤ v.toInt ∧ v.toInt ≤ 1 → jJ jSgX Dy hx9 → jSm fp_X2_readPlain_r95_c8 h0 hx9 → ∀ u0 u1 : Int32, jiv hx9 68 5 = u0 → jiv hx9 68 3 = u1 → (u0.toInt ≠ 3 ∨ u1.toInt ≤ 399) → Q (some (.int v)) hx9) : ∀ (l2 : Int32) (g0 : Int32) (g1 : Int32) (h : jH), 0 ≤ l2.toInt ∧ l2.toInt ≤ 1 → 0 ≤ g0.toInt ∧ g0.toInt ≤ 400 → 0 ≤ g1.toInt ∧ g1.toInt ≤ 3 → (g1.toInt ≠ 3 ∨ g0.toInt ≤ 399) → jiv h 68 3 = g0 → jiv h 68 5 = g1 → jJ jSgX Dy h → jSm fp_X2_readPlain_r95_c8 h0 h → jX m_X2_readPlain 7 0 0 190 [(0, .ref 95), (1, .int 8), (2, .int l2)] [.int 9] h 0 0 Q := by
  intro l2 g0 g1 h y0 y1 y2 y3 z0 z1  J Sm
  refine x_istore (lsx9 := [(4, .int 9), (0, .ref 95), (1, .int 8), (2, .int l2)]) rfl rfl rfl ?_
  refine x_iload (x := 9) rfl rfl ?_
  refine x_iconst (v := (-1)) rfl ki_m1 ?_
  refine x_icne (tgt := 206) rfl rfl (ti_ne jk_9 jk_m1 (bn_t (by omega) ?_))
  refine x_aloadn (x := 95) rfl rfl ?_
  refine z_getR (N := 6) (b := 68) 2 0 rfl f_2_30 rfl J rfl 12160 ⟨rfl, rfl⟩ rfl ?_
  refine x_inv (N := m_X9_step) (As := []) (b := 68) (st := []) (dx9 := 2) (mc := 0) (ms := 0) (host := "") 9 rfl t_X9_step ⟨Or.inl q_2_62, i_X9_step.1, i_X9_step.2⟩ ⟨by decide, rfl⟩ (congrArg Prod.fst (J.1.1 68 (9, 6) rfl)) rfl (by decide) rfl rfl ⟨by decide, by decide⟩ (sf_X9_step_r68  hD J z1 z0 (by omega)  (fun h J S1 u2 u3 qu2 qu3 ru2 => ?_))
  have Sm := jSm_tr rfl Sm S1
  have eu2 := (show 0 ≤ u2.toInt ∧ u2.toInt ≤ 3 from qu2 ▸ jrg_f J sg_68_5_6_1_0_1)
  have eu3 := (show 0 ≤ u3.toInt ∧ u3.toInt ≤ 400 from qu3 ▸ jrg_f J sg_68_3_4_1_0_1)
  show jX m_X2_readPlain 7 0 0 213 [(4, .int 9), (0, .ref 95), (1, .int 8), (2, .int l2)] [] _ 0 0 _
  refine x_aloadn (x := 95) rfl rfl ?_
  refine x_iloadn (x := 8) rfl rfl ?_
  refine x_inv (N := m_X2_readSum) (As := [.int 8]) (b := 95) (st := []) (dx9 := 6) (mc := 0) (ms := 0) (host := "") 2 rfl t_X2_readSum ⟨Or.inl q_2_86, i_X2_readSum.1, i_X2_readSum.2⟩ ⟨by decide, rfl⟩ (congrArg Prod.fst (J.1.1 95 (2, 6) rfl)) rfl (by decide) rfl rfl ⟨by decide, by decide⟩ (sf_X2_readSum_r95_c8  hD J qu2 qu3 (by omega)  (fun v7 h ev7 J S4 u5 u6 qu5 qu6 ru5 => ?_))
  have Sm := jSm_tr rfl Sm S4
  have eu5 := (show 0 ≤ u5.toInt ∧ u5.toInt ≤ 3 from qu5 ▸ jrg_f J sg_68_5_6_1_0_1)
  have eu6 := (show 0 ≤ u6.toInt ∧ u6.toInt ≤ 400 from qu6 ▸ jrg_f J sg_68_3_4_1_0_1)
  show jX m_X2_readPlain 7 0 0 218 [(4, .int 9), (0, .ref 95), (1, .int 8), (2, .int l2)] [.int v7] _ 0 0 _
  refine x_ifne (tgt := 223) rfl rfl (ti_ne rfl jk_0 ⟨fun c8 => ?_, fun c8 => ?_⟩)
  ·
    refine x_aloadn (x := 95) rfl rfl ?_
    refine x_iload (x := 9) rfl rfl ?_
    refine x_inv (N := m_X2_emit) (As := [.int 9]) (b := 95) (st := []) (dx9 := 1) (mc := 0) (ms := 0) (host := "") 2 rfl t_X2_emit ⟨Or.inl q_2_89, i_X2_emit.1, i_X2_emit.2⟩ ⟨by decide, rfl⟩ (congrArg Prod.fst (J.1.1 95 (2, 6) rfl)) rfl (by decide) rfl rfl ⟨by decide, by decide⟩ (sf_X2_emit_r95  hD J  (fun h J S9 => ?_))
    have Sm := jSm_tr rfl Sm S9
    show jX m_X2_readPlain 7 0 0 229 [(4, .int 9), (0, .ref 95), (1, .int 8), (2, .int l2)] [] _ 0 0 _
    exact jX.sub (jsb_c rfl (jsb_c rfl jsb_n)) (ct_X2_readPlain_r95_c8_229 hD hQ  l2 u6 u5 h (jr_of rfl (by omega)) (jr_of rfl (by omega)) (jr_of rfl (by omega)) (by omega) (jmc S9 rfl qu6) (jmc S9 rfl qu5) J Sm)
  ·
    refine x_iconst (v := 0) rfl ki_0 ?_
    refine x_zret rfl rfl (by decide) ?_
    exact hQ _ _ (jr_of jk_0 (by omega)) J Sm _ _ qu5 qu6 (by omega)
set_option maxRecDepth 100000 in
set_option maxHeartbeats 4000000 in
theorem ct_X2_readPlain_r95_c8_1000190 {Dy : jH → Prop} {h0 : jH} {Q : Option Value → jH → Prop} (hD : jDk Dy) (hQ : ∀ (v : Int32) hx9, 0 ≤ v.toInt ∧ v.toInt ≤ 1 → jJ jSgX Dy hx9 → jSm fp_X2_readPlain_r95_c8 h0 hx9 → ∀ u0 u1 : Int32, jiv hx9 68 5 = u0 → jiv hx9 68 3 = u1 → (u0.toInt ≠ 3 ∨ u1.toInt ≤ 399) → Q (some (.int v)) hx9) : ∀ (l2 : Int32) (g0 : Int32) (g1 : Int32) (h : jH), 0 ≤ l2.toInt ∧ l2.toInt ≤ 1 → 0 ≤ g0.toInt ∧ g0.toInt ≤ 400 → 0 ≤ g1.toInt ∧ g1.toInt ≤ 3 → (g1.toInt ≠ 3 ∨ g0.toInt ≤ 399) → jiv h 68 3 = g0 → jiv h 68 5 = g1 → jJ jSgX Dy h → jSm fp_X2_readPlain_r95_c8 h0 h → jX m_X2_readPlain 7 0 0 190 [(0, .ref 95), (1, .int 8), (2, .int l2)] [.int 8] h 0 0 Q := by
  intro l2 g0 g1 h y0 y1 y2 y3 z0 z1  J Sm
  refine x_istore (lsx9 := [(4, .int 8), (0, .ref 95), (1, .int 8), (2, .int l2)]) rfl rfl rfl ?_
  refine x_iload (x := 8) rfl rfl ?_
  refine x_iconst (v := (-1)) rfl ki_m1 ?_
  refine x_icne (tgt := 206) rfl rfl (ti_ne jk_8 jk_m1 (bn_t (by omega) ?_))
  refine x_aloadn (x := 95) rfl rfl ?_
  refine z_getR (N := 6) (b := 68) 2 0 rfl f_2_30 rfl J rfl 12160 ⟨rfl, rfl⟩ rfl ?_
  refine x_inv (N := m_X9_step) (As := []) (b := 68) (st := []) (dx9 := 2) (mc := 0) (ms := 0) (host := "") 9 rfl t_X9_step ⟨Or.inl q_2_62, i_X9_step.1, i_X9_step.2⟩ ⟨by decide, rfl⟩ (congrArg Prod.fst (J.1.1 68 (9, 6) rfl)) rfl (by decide) rfl rfl ⟨by decide, by decide⟩ (sf_X9_step_r68  hD J z1 z0 (by omega)  (fun h J S1 u2 u3 qu2 qu3 ru2 => ?_))
  have Sm := jSm_tr rfl Sm S1
  have eu2 := (show 0 ≤ u2.toInt ∧ u2.toInt ≤ 3 from qu2 ▸ jrg_f J sg_68_5_6_1_0_1)
  have eu3 := (show 0 ≤ u3.toInt ∧ u3.toInt ≤ 400 from qu3 ▸ jrg_f J sg_68_3_4_1_0_1)
  show jX m_X2_readPlain 7 0 0 213 [(4, .int 8), (0, .ref 95), (1, .int 8), (2, .int l2)] [] _ 0 0 _
  refine x_aloadn (x := 95) rfl rfl ?_
  refine x_iloadn (x := 8) rfl rfl ?_
  refine x_inv (N := m_X2_readSum) (As := [.int 8]) (b := 95) (st := []) (dx9 := 6) (mc := 0) (ms := 0) (host := "") 2 rfl t_X2_readSum ⟨Or.inl q_2_86, i_X2_readSum.1, i_X2_readSum.2⟩ ⟨by decide, rfl⟩ (congrArg Prod.fst (J.1.1 95 (2, 6) rfl)) rfl (by decide) rfl rfl ⟨by decide, by decide⟩ (sf_X2_readSum_r95_c8  hD J qu2 qu3 (by omega)  (fun v7 h ev7 J S4 u5 u6 qu5 qu6 ru5 => ?_))
  have Sm := jSm_tr rfl Sm S4
  have eu5 := (show 0 ≤ u5.toInt ∧ u5.toInt ≤ 3 from qu5 ▸ jrg_f J sg_68_5_6_1_0_1)
  have eu6 := (show 0 ≤ u6.toInt ∧ u6.toInt ≤ 400 from qu6 ▸ jrg_f J sg_68_3_4_1_0_1)
  show jX m_X2_readPlain 7 0 0 218 [(4, .int 8), (0, .ref 95), (1, .int 8), (2, .int l2)] [.int v7] _ 0 0 _
  refine x_ifne (tgt := 223) rfl rfl (ti_ne rfl jk_0 ⟨fun c8 => ?_, fun c8 => ?_⟩)
  ·
    refine x_aloadn (x := 95) rfl rfl ?_
    refine x_iload (x := 8) rfl rfl ?_
    refine x_inv (N := m_X2_emit) (As := [.int 8]) (b := 95) (st := []) (dx9 := 1) (mc := 0) (ms := 0) (host := "") 2 rfl t_X2_emit ⟨Or.inl q_2_89, i_X2_emit.1, i_X2_emit.2⟩ ⟨by decide, rfl⟩ (congrArg Prod.fst (J.1.1 95 (2, 6) rfl)) rfl (by decide) rfl rfl ⟨by decide, by decide⟩ (sf_X2_emit_r95  hD J  (fun h J S9 => ?_))
    have Sm := jSm_tr rfl Sm S9
    show jX m_X2_readPlain 7 0 0 229 [(4, .int 8), (0, .ref 95), (1, .int 8), (2, .int l2)] [] _ 0 0 _
    exact jX.sub (jsb_c rfl (jsb_c rfl jsb_n)) (ct_X2_readPlain_r95_c8_229 hD hQ  l2 u6 u5 h (jr_of rfl (by omega)) (jr_of rfl (by omega)) (jr_of rfl (by omega)) (by omega) (jmc S9 rfl qu6) (jmc S9 rfl qu5) J Sm)
  ·
    refine x_iconst (v := 0) rfl ki_0 ?_
    refine x_zret rfl rfl (by decide) ?_
    exact hQ _ _ (jr_of jk_0 (by omega)) J Sm _ _ qu5 qu6 (by omega)
set_option maxRecDepth 100000 in
set_option maxHeartbeats 4000000 in
theorem ct_X2_readPlain_r95_c8_900190 {Dy : jH → Prop} {h0 : jH} {Q : Option Value → jH → Prop} (hD : jDk Dy) (hQ : ∀ (v : Int32) hx9, 0 ≤ v.toInt ∧ v.toInt ≤ 1 → jJ jSgX Dy hx9 → jSm fp_X2_readPlain_r95_c8 h0 hx9 → ∀ u0 u1 : Int32, jiv hx9 68 5 = u0 → jiv hx9 68 3 = u1 → (u0.toInt ≠ 3 ∨ u1.toInt ≤ 399) → Q (some (.int v)) hx9) : ∀ (l2 : Int32) (g0 : Int32) (g1 : Int32) (h : jH), 0 ≤ l2.toInt ∧ l2.toInt ≤ 1 → 0 ≤ g0.toInt ∧ g0.toInt ≤ 400 → 0 ≤ g1.toInt ∧ g1.toInt ≤ 3 → (g1.toInt ≠ 3 ∨ g0.toInt ≤ 399) → jiv h 68 3 = g0 → jiv h 68 5 = g1 → jJ jSgX Dy h → jSm fp_X2_readPlain_r95_c8 h0 h → jX m_X2_readPlain 7 0 0 190 [(0, .ref 95), (1, .int 8), (2, .int l2)] [.int 7] h 0 0 Q := by
  intro l2 g0 g1 h y0 y1 y2 y3 z0 z1  J Sm
  refine x_istore (lsx9 := [(4, .int 7), (0, .ref 95), (1, .int 8), (2, .int l2)]) rfl rfl rfl ?_
  refine x_iload (x := 7) rfl rfl ?_
  refine x_iconst (v := (-1)) rfl ki_m1 ?_
  refine x_icne (tgt := 206) rfl rfl (ti_ne jk_7 jk_m1 (bn_t (by omega) ?_))
  refine x_aloadn (x := 95) rfl rfl ?_
  refine z_getR (N := 6) (b := 68) 2 0 rfl f_2_30 rfl J rfl 12160 ⟨rfl, rfl⟩ rfl ?_
  refine x_inv (N := m_X9_step) (As := []) (b := 68) (st := []) (dx9 := 2) (mc := 0) (ms := 0) (host := "") 9 rfl t_X9_step ⟨Or.inl q_2_62, i_X9_step.1, i_X9_step.2⟩ ⟨by decide, rfl⟩ (congrArg Prod.fst (J.1.1 68 (9, 6) rfl)) rfl (by decide) rfl rfl ⟨by decide, by decide⟩ (sf_X9_step_r68  hD J z1 z0 (by omega)  (fun h J S1 u2 u3 qu2 qu3 ru2 => ?_))
  have Sm := jSm_tr rfl Sm S1
  have eu2 := (show 0 ≤ u2.toInt ∧ u2.toInt ≤ 3 from qu2 ▸ jrg_f J sg_68_5_6_1_0_1)
  have eu3 := (show 0 ≤ u3.toInt ∧ u3.toInt ≤ 400 from qu3 ▸ jrg_f J sg_68_3_4_1_0_1)
  show jX m_X2_readPlain 7 0 0 213 [(4, .int 7), (0, .ref 95), (1, .int 8), (2, .int l2)] [] _ 0 0 _
  refine x_aloadn (x := 95) rfl rfl ?_
  refine x_iloadn (x := 8) rfl rfl ?_
  refine x_inv (N := m_X2_readSum) (As := [.int 8]) (b := 95) (st := []) (dx9 := 6) (mc := 0) (ms := 0) (host := "") 2 rfl t_X2_readSum ⟨Or.inl q_2_86, i_X2_readSum.1, i_X2_readSum.2⟩ ⟨by decide, rfl⟩ (congrArg Prod.fst (J.1.1 95 (2, 6) rfl)) rfl (by decide) rfl rfl ⟨by decide, by decide⟩ (sf_X2_readSum_r95_c8  hD J qu2 qu3 (by omega)  (fun v7 h ev7 J S4 u5 u6 qu5 qu6 ru5 => ?_))
  have Sm := jSm_tr rfl Sm S4
  have eu5 := (show 0 ≤ u5.toInt ∧ u5.toInt ≤ 3 from qu5 ▸ jrg_f J sg_68_5_6_1_0_1)
  have eu6 := (show 0 ≤ u6.toInt ∧ u6.toInt ≤ 400 from qu6 ▸ jrg_f J sg_68_3_4_1_0_1)
  show jX m_X2_readPlain 7 0 0 218 [(4, .int 7), (0, .ref 95), (1, .int 8), (2, .int l2)] [.int v7] _ 0 0 _
  refine x_ifne (tgt := 223) rfl rfl (ti_ne rfl jk_0 ⟨fun c8 => ?_, fun c8 => ?_⟩)
  ·
    refine x_aloadn (x := 95) rfl rfl ?_
    refine x_iload (x := 7) rfl rfl ?_
    refine x_inv (N := m_X2_emit) (As := [.int 7]) (b := 95) (st := []) (dx9 := 1) (mc := 0) (ms := 0) (host := "") 2 rfl t_X2_emit ⟨Or.inl q_2_89, i_X2_emit.1, i_X2_emit.2⟩ ⟨by decide, rfl⟩ (congrArg Prod.fst (J.1.1 95 (2, 6) rfl)) rfl (by decide) rfl rfl ⟨by decide, by decide⟩ (sf_X2_emit_r95  hD J  (fun h J S9 => ?_))
    have Sm := jSm_tr rfl Sm S9
    show jX m_X2_readPlain 7 0 0 229 [(4, .int 7), (0, .ref 95), (1, .int 8), (2, .int l2)] [] _ 0 0 _
    exact jX.sub (jsb_c rfl (jsb_c rfl jsb_n)) (ct_X2_readPlain_r95_c8_229 hD hQ  l2 u6 u5 h (jr_of rfl (by omega)) (jr_of rfl (by omega)) (jr_of rfl (by omega)) (by omega) (jmc S9 rfl qu6) (jmc S9 rfl qu5) J Sm)
  ·
    refine x_iconst (v := 0) rfl ki_0 ?_
    refine x_zret rfl rfl (by decide) ?_
    exact hQ _ _ (jr_of jk_0 (by omega)) J Sm _ _ qu5 qu6 (by omega)
set_option maxRecDepth 100000 in
set_option maxHeartbeats 4000000 in
theorem ct_X2_readPlain_r95_c8_46 {Dy : jH → Prop} {h0 : jH} {Q : Option Value → jH → Prop} (hD : jDk Dy) (hQ : ∀ (v : Int32) hx9, 0 ≤ v.toInt ∧ v.toInt ≤ 1 → jJ jSgX Dy hx9 → jSm fp_X2_readPlain_r95_c8 h0 hx9 → ∀ u0 u1 : Int32, jiv hx9 68 5 = u0 → jiv hx9 68 3 = u1 → (u0.toInt ≠ 3 ∨ u1.toInt ≤ 399) → Q (some (.int v)) hx9) : ∀ (l2 : Int32) (g0 : Int32) (g1 : Int32) (h : jH), 0 ≤ l2.toInt ∧ l2.toInt ≤ 1 → 0 ≤ g0.toInt ∧ g0.toInt ≤ 400 → 0 ≤ g1.toInt ∧ g1.toInt ≤ 3 → (g1.toInt ≠ 3 ∨ g0.toInt ≤ 399) → jiv h 68 3 = g0 → jiv h 68 5 = g1 → jJ jSgX Dy h → jSm fp_X2_readPlain_r95_c8 h0 h → jX m_X2_readPlain 7 0 0 46 [(0, .ref 95), (1, .int 8), (2, .int l2)] [] h 0 0 Q := by
  intro l2 g0 g1 h y0 y1 y2 y3 z0 z1  J Sm
  refine x_aloadn (x := 95) rfl rfl ?_
  refine z_getR (N := 6) (b := 68) 2 0 rfl f_2_30 rfl J rfl 12160 ⟨rfl, rfl⟩ rfl ?_
  refine x_ldcS (jstr.getD 10 jstr_0) rfl (List.mem_of_getElem? (i := 10) rfl) rfl rfl ?_
  show jX m_X2_readPlain 7 0 0 52 [(0, .ref 95), (1, .int 8), (2, .int l2)] [.ref 15, .ref 68] _ 0 0 _
  refine x_inv (N := m_X9_wordOf) (As := [.ref 15]) (b := 68) (st := []) (dx9 := 4) (mc := 0) (ms := 0) (host := "") 9 rfl t_X9_wordOf ⟨Or.inl q_2_67, i_X9_wordOf.1, i_X9_wordOf.2⟩ ⟨by decide, rfl⟩ (congrArg Prod.fst (J.1.1 68 (9, 6) rfl)) rfl (by decide) rfl rfl ⟨by decide, by decide⟩ (sf_X9_wordOf_r68_r15  hD J  (fun v2 h J S1 => ?_))
  have ev2 := jfull v2
  have Sm := jSm_tr rfl Sm S1
  show jX m_X2_readPlain 7 0 0 55 [(0, .ref 95), (1, .int 8), (2, .int l2)] [.int v2] _ 0 0 _
  refine x_istoren (lsx9 := [(3, .int v2), (0, .ref 95), (1, .int 8), (2, .int l2)]) rfl rfl rfl ?_
  refine x_aloadn (x := 95) rfl rfl ?_
  refine z_getR (N := 6) (b := 68) 2 0 rfl f_2_30 rfl J rfl 12160 ⟨rfl, rfl⟩ rfl ?_
  refine x_bipush (v := 40) rfl kb_40 ?_
  refine x_inv (N := m_X9_isSign) (As := [.int 40]) (b := 68) (st := []) (dx9 := 1) (mc := 0) (ms := 0) (host := "") 9 rfl t_X9_isSign ⟨Or.inl q_2_55, i_X9_isSign.1, i_X9_isSign.2⟩ ⟨by decide, rfl⟩ (congrArg Prod.fst (J.1.1 68 (9, 6) rfl)) rfl (by decide) rfl rfl ⟨by decide, by decide⟩ (sf_X9_isSign_r68 (jr_of jk_40 (by omega)) hD J (jmc S1 rfl z1) (jmc S1 rfl z0) (by omega)  (fun v6 h ev6 J S3 u4 u5 qu4 qu5 ru4 => ?_))
  have Sm := jSm_tr rfl Sm S3
  have eu4 := (show 0 ≤ u4.toInt ∧ u4.toInt ≤ 3 from qu4 ▸ jrg_f J sg_68_5_6_1_0_1)
  have eu5 := (show 0 ≤ u5.toInt ∧ u5.toInt ≤ 400 from qu5 ▸ jrg_f J sg_68_3_4_1_0_1)
  show jX m_X2_readPlain 7 0 0 65 [(3, .int v2), (0, .ref 95), (1, .int 8), (2, .int l2)] [.int v6] _ 0 0 _
  refine x_ifeq (tgt := 110) rfl rfl (ti_eq rfl jk_0 ⟨fun c7 => ?_, fun c7 => ?_⟩)
  ·
    refine x_iloadn (x := v2) rfl rfl ?_
    refine x_iconst (v := (-1)) rfl ki_m1 ?_
    refine x_iceq (tgt := 128) rfl rfl (ti_eq rfl jk_m1 ⟨fun c8 => ?_, fun c8 => ?_⟩)
    ·
      refine x_aloadn (x := 95) rfl rfl ?_
      refine x_iloadn (x := 8) rfl rfl ?_
      refine x_inv (N := m_X2_readSum) (As := [.int 8]) (b := 95) (st := []) (dx9 := 6) (mc := 0) (ms := 0) (host := "") 2 rfl t_X2_readSum ⟨Or.inl q_2_86, i_X2_readSum.1, i_X2_readSum.2⟩ ⟨by decide, rfl⟩ (congrArg Prod.fst (J.1.1 95 (2, 6) rfl)) rfl (by decide) rfl rfl ⟨by decide, by decide⟩ (sf_X2_readSum_r95_c8  hD J qu4 qu5 (by omega)  (fun v12 h ev12 J S9 u10 u11 qu10 qu11 ru10 => ?_))
      have Sm := jSm_tr rfl Sm S9
      have eu10 := (show 0 ≤ u10.toInt ∧ u10.toInt ≤ 3 from qu10 ▸ jrg_f J sg_68_5_6_1_0_1)
      have eu11 := (show 0 ≤ u11.toInt ∧ u11.toInt ≤ 400 from qu11 ▸ jrg_f J sg_68_3_4_1_0_1)
      show jX m_X2_readPlain 7 0 0 133 [(3, .int v2), (0, .ref 95), (1, .int 8), (2, .int l2)] [.int v12] _ 0 0 _
      refine x_ifne (tgt := 138) rfl rfl (ti_ne rfl jk_0 ⟨fun c13 => ?_, fun c13 => ?_⟩)
      ·
        refine x_aloadn (x := 95) rfl rfl ?_
        refine z_getR (N := 6) (b := 68) 2 0 rfl f_2_30 rfl J rfl 12160 ⟨rfl, rfl⟩ rfl ?_
        refine x_bipush (v := 60) rfl kb_60 ?_
        refine x_inv (N := m_X9_isSign) (As := [.int 60]) (b := 68) (st := []) (dx9 := 1) (mc := 0) (ms := 0) (host := "") 9 rfl t_X9_isSign ⟨Or.inl q_2_55, i_X9_isSign.1, i_X9_isSign.2⟩ ⟨by decide, rfl⟩ (congrArg Prod.fst (J.1.1 68 (9, 6) rfl)) rfl (by decide) rfl rfl ⟨by decide, by decide⟩ (sf_X9_isSign_r68 (jr_of jk_60 (by omega)) hD J qu10 qu11 (by omega)  (fun v17 h ev17 J S14 u15 u16 qu15 qu16 ru15 => ?_))
        have Sm := jSm_tr rfl Sm S14
        have eu15 := (show 0 ≤ u15.toInt ∧ u15.toInt ≤ 3 from qu15 ▸ jrg_f J sg_68_5_6_1_0_1)
        have eu16 := (show 0 ≤ u16.toInt ∧ u16.toInt ≤ 400 from qu16 ▸ jrg_f J sg_68_3_4_1_0_1)
        show jX m_X2_readPlain 7 0 0 147 [(3, .int v2), (0, .ref 95), (1, .int 8), (2, .int l2)] [.int v17] _ 0 0 _
        refine x_ifeq (tgt := 155) rfl rfl (ti_eq rfl jk_0 ⟨fun c18 => ?_, fun c18 => ?_⟩)
        ·
          refine x_aloadn (x := 95) rfl rfl ?_
          refine z_getR (N := 6) (b := 68) 2 0 rfl f_2_30 rfl J rfl 12160 ⟨rfl, rfl⟩ rfl ?_
          refine x_bipush (v := 62) rfl kb_62 ?_
          refine x_inv (N := m_X9_isSign) (As := [.int 62]) (b := 68) (st := []) (dx9 := 1) (mc := 0) (ms := 0) (host := "") 9 rfl t_X9_isSign ⟨Or.inl q_2_55, i_X9_isSign.1, i_X9_isSign.2⟩ ⟨by decide, rfl⟩ (congrArg Prod.fst (J.1.1 68 (9, 6) rfl)) rfl (by decide) rfl rfl ⟨by decide, by decide⟩ (sf_X9_isSign_r68 (jr_of jk_62 (by omega)) hD J qu15 qu16 (by omega)  (fun v22 h ev22 J S19 u20 u21 qu20 qu21 ru20 => ?_))
          have Sm := jSm_tr rfl Sm S19
          have eu20 := (show 0 ≤ u20.toInt ∧ u20.toInt ≤ 3 from qu20 ▸ jrg_f J sg_68_5_6_1_0_1)
          have eu21 := (show 0 ≤ u21.toInt ∧ u21.toInt ≤ 400 from qu21 ▸ jrg_f J sg_68_3_4_1_0_1)
          show jX m_X2_readPlain 7 0 0 164 [(3, .int v2), (0, .ref 95), (1, .int 8), (2, .int l2)] [.int v22] _ 0 0 _
          refine x_ifeq (tgt := 172) rfl rfl (ti_eq rfl jk_0 ⟨fun c23 => ?_, fun c23 => ?_⟩)
          ·
            refine x_aloadn (x := 95) rfl rfl ?_
            refine z_getR (N := 6) (b := 68) 2 0 rfl f_2_30 rfl J rfl 12160 ⟨rfl, rfl⟩ rfl ?_
            refine x_bipush (v := 61) rfl kb_61 ?_
            refine x_inv (N := m_X9_isSign) (As := [.int 61]) (b := 68) (st := []) (dx9 := 1) (mc := 0) (ms := 0) (host := "") 9 rfl t_X9_isSign ⟨Or.inl q_2_55, i_X9_isSign.1, i_X9_isSign.2⟩ ⟨by decide, rfl⟩ (congrArg Prod.fst (J.1.1 68 (9, 6) rfl)) rfl (by decide) rfl rfl ⟨by decide, by decide⟩ (sf_X9_isSign_r68 (jr_of jk_61 (by omega)) hD J qu20 qu21 (by omega)  (fun v27 h ev27 J S24 u25 u26 qu25 qu26 ru25 => ?_))
            have Sm := jSm_tr rfl Sm S24
            have eu25 := (show 0 ≤ u25.toInt ∧ u25.toInt ≤ 3 from qu25 ▸ jrg_f J sg_68_5_6_1_0_1)
            have eu26 := (show 0 ≤ u26.toInt ∧ u26.toInt ≤ 400 from qu26 ▸ jrg_f J sg_68_3_4_1_0_1)
            show jX m_X2_readPlain 7 0 0 181 [(3, .int v2), (0, .ref 95), (1, .int 8), (2, .int l2)] [.int v27] _ 0 0 _
            refine x_ifeq (tgt := 189) rfl rfl (ti_eq rfl jk_0 ⟨fun c28 => ?_, fun c28 => ?_⟩)
            ·
              refine x_iconst (v := (-1)) rfl ki_m1 ?_
              exact jX.sub (jsb_c rfl (jsb_c rfl (jsb_c rfl jsb_n))) (ct_X2_readPlain_r95_c8_100190 hD hQ  l2 u26 u25 h (jr_of rfl (by omega)) (jr_of rfl (by omega)) (jr_of rfl (by omega)) (by omega) qu26 qu25 J Sm)
            ·
              refine x_bipush (v := 9) rfl kb_9 ?_
              refine x_goto (tgt := 190) rfl rfl ?_
              exact jX.sub (jsb_c rfl (jsb_c rfl (jsb_c rfl jsb_n))) (ct_X2_readPlain_r95_c8_190 hD hQ  l2 u26 u25 h (jr_of rfl (by omega)) (jr_of rfl (by omega)) (jr_of rfl (by omega)) (by omega) qu26 qu25 J Sm)
          ·
            refine x_bipush (v := 8) rfl kb_8 ?_
            refine x_goto (tgt := 190) rfl rfl ?_
            exact jX.sub (jsb_c rfl (jsb_c rfl (jsb_c rfl jsb_n))) (ct_X2_readPlain_r95_c8_1000190 hD hQ  l2 u21 u20 h (jr_of rfl (by omega)) (jr_of rfl (by omega)) (jr_of rfl (by omega)) (by omega) qu21 qu20 J Sm)
        ·
          refine x_bipush (v := 7) rfl kb_7 ?_
          refine x_goto (tgt := 190) rfl rfl ?_
          exact jX.sub (jsb_c rfl (jsb_c rfl (jsb_c rfl jsb_n))) (ct_X2_readPlain_r95_c8_900190 hD hQ  l2 u16 u15 h (jr_of rfl (by omega)) (jr_of rfl (by omega)) (jr_of rfl (by omega)) (by omega) qu16 qu15 J Sm)
      ·
        refine x_iconst (v := 0) rfl ki_0 ?_
        refine x_zret rfl rfl (by decide) ?_
        exact hQ _ _ (jr_of jk_0 (by omega)) J Sm _ _ qu10 qu11 (by omega)
    ·
      refine x_aloadn (x := 95) rfl rfl ?_
      refine x_iconst (v := 2) rfl ki_2 ?_
      refine x_iconst (v := 5) rfl ki_5 ?_
      refine x_iloadn (x := v2) rfl rfl ?_
      refine z_iadd0 rfl (fun v29 => ?_)
      have ev29 := jfull v29
      refine x_inv (N := m_X2_readPart) (As := [.int 2, .int v29]) (b := 95) (st := []) (dx9 := 3) (mc := 0) (ms := 0) (host := "") 2 rfl t_X2_readPart ⟨Or.inl q_2_141, i_X2_readPart.1, i_X2_readPart.2⟩ ⟨by decide, rfl⟩ (congrArg Prod.fst (J.1.1 95 (2, 6) rfl)) rfl (by decide) rfl rfl ⟨by decide, by decide⟩ (sf_X2_readPart_r95 (jr_of jk_2 (by omega)) hD J qu4 qu5 (by omega)  (fun v33 h ev33 J S30 u31 u32 qu31 qu32 ru31 => ?_))
      have Sm := jSm_tr rfl Sm S30
      have eu31 := (show 0 ≤ u31.toInt ∧ u31.toInt ≤ 3 from qu31 ▸ jrg_f J sg_68_5_6_1_0_1)
      have eu32 := (show 0 ≤ u32.toInt ∧ u32.toInt ≤ 400 from qu32 ▸ jrg_f J sg_68_3_4_1_0_1)
      show jX m_X2_readPlain 7 0 0 123 [(3, .int v2), (0, .ref 95), (1, .int 8), (2, .int l2)] [.int v33] _ 0 0 _
      refine x_ifne (tgt := 229) rfl rfl (ti_ne rfl jk_0 ⟨fun c34 => ?_, fun c34 => ?_⟩)
      ·
        exact jX.sub (jsb_c rfl (jsb_c rfl jsb_n)) (ct_X2_readPlain_r95_c8_229 hD hQ  l2 u32 u31 h (jr_of rfl (by omega)) (jr_of rfl (by omega)) (jr_of rfl (by omega)) (by omega) qu32 qu31 J Sm)
      ·
        refine x_iconst (v := 0) rfl ki_0 ?_
        refine x_zret rfl rfl (by decide) ?_
        exact hQ _ _ (jr_of jk_0 (by omega)) J Sm _ _ qu31 qu32 (by omega)
  ·
    refine x_iloadn (x := 8) rfl rfl ?_
    refine x_bipush (v := 8) rfl kb_8 ?_
    refine x_iclt (tgt := 82) rfl rfl (ti_lt jk_8 jk_8 (br_f (by omega) ?_))
    refine x_aloadn (x := 95) rfl rfl ?_
    refine z_getR (N := 6) (b := 68) 2 0 rfl f_2_30 rfl J rfl 12160 ⟨rfl, rfl⟩ rfl ?_
    refine x_inv (N := m_X9_blame) (As := []) (b := 68) (st := []) (dx9 := 6) (mc := 0) (ms := 0) (host := "") 9 rfl t_X9_blame ⟨Or.inl q_2_59, i_X9_blame.1, i_X9_blame.2⟩ ⟨by decide, rfl⟩ (congrArg Prod.fst (J.1.1 68 (9, 6) rfl)) rfl (by decide) rfl rfl ⟨by decide, by decide⟩ (jC.of rfl k_X9_blame rfl ?_)
    show jX m_X9_blame 6 0 0 0 [(0, .ref 68)] [] _ 0 0 _
    refine x_aloadn (x := 68) rfl rfl ?_
    refine x_aloadn (x := 68) rfl rfl ?_
    refine z_getM (N := 6) (v := u5) 9 3 rfl f_9_22 rfl J rfl qu5 ?_
    refine z_putI (N := 6) (w := u5.toInt) 9 2 rfl f_9_19 rfl (jfin_no TX9 RX9 6 rfl rfl) hD J Sm rfl rfl rfl (pw_68_2 (by omega)) rfl (fun h w35 J Sm => ?_)
    refine x_iconst (v := 0) rfl ki_0 ?_
    refine x_zret rfl rfl (by decide) ?_
    show jX m_X2_readPlain 7 0 0 81 [(3, .int v2), (0, .ref 95), (1, .int 8), (2, .int l2)] [.int 0] _ 0 0 _
    refine x_zret rfl rfl (by decide) ?_
    exact hQ _ _ (jr_of jk_0 (by omega)) J Sm _ _ (jmo w35 rfl qu4) (jmo w35 rfl qu5) (by omega)
set_option maxRecDepth 100000 in
set_option maxHeartbeats 4000000 in
theorem ct_X2_readPlain_r95_c8_300032 {Dy : jH → Prop} {h0 : jH} {Q : Option Value → jH → Prop} {R4 : Int} (hD : jDk Dy) (hQ : ∀ (v : Int32) hx9, 0 ≤ v.toInt ∧ v.toInt ≤ 1 → jJ jSgX Dy hx9 → jSm fp_X2_readPlain_r95_c8 h0 hx9 → ∀ u0 u1 : Int32, jiv hx9 68 5 = u0 → jiv hx9 68 3 = u1 → (u0.toInt ≠ 3 ∨ u1.toInt ≤ 399) → Q (some (.int v)) hx9) (k4 : ∀ (l2 : Int32) (l3 : Int32) (g0 : Int32) (g1 : Int32) (h : jH), 400 - l3.toInt < R4 → 0 ≤ l2.toInt ∧ l2.toInt ≤ 1 → 0 ≤ l3.toInt ∧ l3.toInt ≤ 400 → 0 ≤ g0.toInt ∧ g0.toInt ≤ 400 → 0 ≤ g1.toInt ∧ g1.toInt ≤ 3 → (g1.toInt ≠ 3 ∨ g0.toInt ≤ 399) → jiv h 68 3 = g0 → jiv h 68 5 = g1 → jJ jSgX Dy h → jSm fp_X2_readPlain_r95_c8 h0 h → jX m_X2_readPlain 7 0 0 4 [(0, .ref 95), (1, .int 8), (2, .int l2), (3, .int l3)] [] h 0 0 Q) : ∀ (l3 : Int32) (g0 : Int32) (g1 : Int32) (h : jH), 0 ≤ l3.toInt ∧ l3.toInt ≤ 399 → 0 ≤ g0.toInt ∧ g0.toInt ≤ 400 → 0 ≤ g1.toInt ∧ g1.toInt ≤ 3 → (g1.toInt ≠ 3 ∨ g0.toInt ≤ 399) → jiv h 68 3 = g0 → jiv h 68 5 = g1 → 400 - l3.toInt ≤ R4 → jJ jSgX Dy h → jSm fp_X2_readPlain_r95_c8 h0 h → jX m_X2_readPlain 7 0 0 32 [(0, .ref 95), (1, .int 8), (3, .int l3)] [.int 1] h 0 0 Q := by
  intro l3 g0 g1 h y0 y1 y2 y3 z0 z1 m4 J Sm
  refine x_istoren (lsx9 := [(2, .int 1), (0, .ref 95), (1, .int 8), (3, .int l3)]) rfl rfl rfl ?_
  refine x_aloadn (x := 95) rfl rfl ?_
  refine z_getR (N := 6) (b := 68) 2 0 rfl f_2_30 rfl J rfl 12160 ⟨rfl, rfl⟩ rfl ?_
  refine x_inv (N := m_X9_step) (As := []) (b := 68) (st := []) (dx9 := 2) (mc := 0) (ms := 0) (host := "") 9 rfl t_X9_step ⟨Or.inl q_2_62, i_X9_step.1, i_X9_step.2⟩ ⟨by decide, rfl⟩ (congrArg Prod.fst (J.1.1 68 (9, 6) rfl)) rfl (by decide) rfl rfl ⟨by decide, by decide⟩ (sf_X9_step_r68  hD J z1 z0 (by omega)  (fun h J S1 u2 u3 qu2 qu3 ru2 => ?_))
  have Sm := jSm_tr rfl Sm S1
  have eu2 := (show 0 ≤ u2.toInt ∧ u2.toInt ≤ 3 from qu2 ▸ jrg_f J sg_68_5_6_1_0_1)
  have eu3 := (show 0 ≤ u3.toInt ∧ u3.toInt ≤ 400 from qu3 ▸ jrg_f J sg_68_3_4_1_0_1)
  show jX m_X2_readPlain 7 0 0 40 [(2, .int 1), (0, .ref 95), (1, .int 8), (3, .int l3)] [] _ 0 0 _
  refine z_iinc (x := l3) (lsx9 := fun v4 => [(3, .int v4), (2, .int 1), (0, .ref 95), (1, .int 8)]) rfl rfl rfl jko_1 (by omega) rfl (fun _ => rfl) (fun v4 ev4 => ?_)
  refine x_goto (tgt := 4) rfl rfl ?_
  exact jX.sub (jsb_c rfl (jsb_c rfl (jsb_c rfl (jsb_c rfl jsb_n)))) (k4 1 v4 u3 u2 h (by omega) (jr_of jk_1 (by omega)) (jr_of rfl (by omega)) (jr_of rfl (by omega)) (jr_of rfl (by omega)) (by omega) qu3 qu2 J Sm)
set_option maxRecDepth 100000 in
set_option maxHeartbeats 4000000 in
theorem ct_X2_readPlain_r95_c8_200032 {Dy : jH → Prop} {h0 : jH} {Q : Option Value → jH → Prop} {R4 : Int} (hD : jDk Dy) (hQ : ∀ (v : Int32) hx9, 0 ≤ v.toInt ∧ v.toInt ≤ 1 → jJ jSgX Dy hx9 → jSm fp_X2_readPlain_r95_c8 h0 hx9 → ∀ u0 u1 : Int32, jiv hx9 68 5 = u0 → jiv hx9 68 3 = u1 → (u0.toInt ≠ 3 ∨ u1.toInt ≤ 399) → Q (some (.int v)) hx9) (k4 : ∀ (l2 : Int32) (l3 : Int32) (g0 : Int32) (g1 : Int32) (h : jH), 400 - l3.toInt < R4 → 0 ≤ l2.toInt ∧ l2.toInt ≤ 1 → 0 ≤ l3.toInt ∧ l3.toInt ≤ 400 → 0 ≤ g0.toInt ∧ g0.toInt ≤ 400 → 0 ≤ g1.toInt ∧ g1.toInt ≤ 3 → (g1.toInt ≠ 3 ∨ g0.toInt ≤ 399) → jiv h 68 3 = g0 → jiv h 68 5 = g1 → jJ jSgX Dy h → jSm fp_X2_readPlain_r95_c8 h0 h → jX m_X2_readPlain 7 0 0 4 [(0, .ref 95), (1, .int 8), (2, .int l2), (3, .int l3)] [] h 0 0 Q) : ∀ (l3 : Int32) (g0 : Int32) (g1 : Int32) (h : jH), 0 ≤ l3.toInt ∧ l3.toInt ≤ 399 → 0 ≤ g0.toInt ∧ g0.toInt ≤ 400 → 0 ≤ g1.toInt ∧ g1.toInt ≤ 3 → (g1.toInt ≠ 3 ∨ g0.toInt ≤ 399) → jiv h 68 3 = g0 → jiv h 68 5 = g1 → 400 - l3.toInt ≤ R4 → jJ jSgX Dy h → jSm fp_X2_readPlain_r95_c8 h0 h → jX m_X2_readPlain 7 0 0 32 [(0, .ref 95), (1, .int 8), (3, .int l3)] [.int 0] h 0 0 Q := by
  intro l3 g0 g1 h y0 y1 y2 y3 z0 z1 m4 J Sm
  refine x_istoren (lsx9 := [(2, .int 0), (0, .ref 95), (1, .int 8), (3, .int l3)]) rfl rfl rfl ?_
  refine x_aloadn (x := 95) rfl rfl ?_
  refine z_getR (N := 6) (b := 68) 2 0 rfl f_2_30 rfl J rfl 12160 ⟨rfl, rfl⟩ rfl ?_
  refine x_inv (N := m_X9_step) (As := []) (b := 68) (st := []) (dx9 := 2) (mc := 0) (ms := 0) (host := "") 9 rfl t_X9_step ⟨Or.inl q_2_62, i_X9_step.1, i_X9_step.2⟩ ⟨by decide, rfl⟩ (congrArg Prod.fst (J.1.1 68 (9, 6) rfl)) rfl (by decide) rfl rfl ⟨by decide, by decide⟩ (sf_X9_step_r68  hD J z1 z0 (by omega)  (fun h J S1 u2 u3 qu2 qu3 ru2 => ?_))
  have Sm := jSm_tr rfl Sm S1
  have eu2 := (show 0 ≤ u2.toInt ∧ u2.toInt ≤ 3 from qu2 ▸ jrg_f J sg_68_5_6_1_0_1)
  have eu3 := (show 0 ≤ u3.toInt ∧ u3.toInt ≤ 400 from qu3 ▸ jrg_f J sg_68_3_4_1_0_1)
  show jX m_X2_readPlain 7 0 0 40 [(2, .int 0), (0, .ref 95), (1, .int 8), (3, .int l3)] [] _ 0 0 _
  refine z_iinc (x := l3) (lsx9 := fun v4 => [(3, .int v4), (2, .int 0), (0, .ref 95), (1, .int 8)]) rfl rfl rfl jko_1 (by omega) rfl (fun _ => rfl) (fun v4 ev4 => ?_)
  refine x_goto (tgt := 4) rfl rfl ?_
  exact jX.sub (jsb_c rfl (jsb_c rfl (jsb_c rfl (jsb_c rfl jsb_n)))) (k4 0 v4 u3 u2 h (by omega) (jr_of jk_0 (by omega)) (jr_of rfl (by omega)) (jr_of rfl (by omega)) (jr_of rfl (by omega)) (by omega) qu3 qu2 J Sm)
set_option maxRecDepth 100000 in
set_option maxHeartbeats 4000000 in
theorem ct_X2_readPlain_r95_c8_4 {Dy : jH → Prop} {h0 : jH} {Q : Option Value → jH → Prop} (hD : jDk Dy) (hQ : ∀ (v : Int32) hx9, 0 ≤ v.toInt ∧ v.toInt ≤ 1 → jJ jSgX Dy hx9 → jSm fp_X2_readPlain_r95_c8 h0 hx9 → ∀ u0 u1 : Int32, jiv hx9 68 5 = u0 → jiv hx9 68 3 = u1 → (u0.toInt ≠ 3 ∨ u1.toInt ≤ 399) → Q (some (.int v)) hx9) : ∀ r : Nat, ∀ (l2 : Int32) (l3 : Int32) (g0 : Int32) (g1 : Int32) (h : jH), 400 - l3.toInt < (r : Int) → 0 ≤ l2.toInt ∧ l2.toInt ≤ 1 → 0 ≤ l3.toInt ∧ l3.toInt ≤ 400 → 0 ≤ g0.toInt ∧ g0.toInt ≤ 400 → 0 ≤ g1.toInt ∧ g1.toInt ≤ 3 → (g1.toInt ≠ 3 ∨ g0.toInt ≤ 399) → jiv h 68 3 = g0 → jiv h 68 5 = g1 → jJ jSgX Dy h → jSm fp_X2_readPlain_r95_c8 h0 h → jX m_X2_readPlain 7 0 0 4 [(0, .ref 95), (1, .int 8), (2, .int l2), (3, .int l3)] [] h 0 0 Q := by
  intro r
  induction r with
  | zero =>
    intro l2 l3 g0 g1 h hm y0 y1 y2 y3 y4 z0 z1  J Sm
    exfalso
    omega
  | succ r ih =>
    intro l2 l3 g0 g1 h hm y0 y1 y2 y3 y4 z0 z1  J Sm
    refine x_iloadn (x := l3) rfl rfl ?_
    refine x_sipush (v := 400) rfl ks_400 ?_
    refine x_icge (tgt := 46) rfl rfl (ti_ge rfl jk_400 ⟨fun c1 => ?_, fun c1 => ?_⟩)
    ·
      exact jX.sub (jsb_c rfl (jsb_c rfl (jsb_c rfl jsb_n))) (ct_X2_readPlain_r95_c8_46 hD hQ  l2 g0 g1 h (jr_of rfl (by omega)) (jr_of rfl (by omega)) (jr_of rfl (by omega)) (by omega) z0 z1 J Sm)
    ·
      refine x_aloadn (x := 95) rfl rfl ?_
      refine z_getR (N := 6) (b := 68) 2 0 rfl f_2_30 rfl J rfl 12160 ⟨rfl, rfl⟩ rfl ?_
      refine x_ldcS (jstr.getD 9 jstr_0) rfl (List.mem_of_getElem? (i := 9) rfl) rfl rfl ?_
      show jX m_X2_readPlain 7 0 0 17 [(0, .ref 95), (1, .int 8), (2, .int l2), (3, .int l3)] [.ref 14, .ref 68] _ 0 0 _
      refine x_inv (N := m_X9_wordOf) (As := [.ref 14]) (b := 68) (st := []) (dx9 := 4) (mc := 0) (ms := 0) (host := "") 9 rfl t_X9_wordOf ⟨Or.inl q_2_67, i_X9_wordOf.1, i_X9_wordOf.2⟩ ⟨by decide, rfl⟩ (congrArg Prod.fst (J.1.1 68 (9, 6) rfl)) rfl (by decide) rfl rfl ⟨by decide, by decide⟩ (sf_X9_wordOf_r68_r14  hD J  (fun v3 h J S2 => ?_))
      have ev3 := jfull v3
      have Sm := jSm_tr rfl Sm S2
      show jX m_X2_readPlain 7 0 0 20 [(0, .ref 95), (1, .int 8), (2, .int l2), (3, .int l3)] [.int v3] _ 0 0 _
      refine x_ifne (tgt := 46) rfl rfl (ti_ne rfl jk_0 ⟨fun c4 => ?_, fun c4 => ?_⟩)
      ·
        exact jX.sub (jsb_c rfl (jsb_c rfl (jsb_c rfl jsb_n))) (ct_X2_readPlain_r95_c8_46 hD hQ  l2 g0 g1 h (jr_of rfl (by omega)) (jr_of rfl (by omega)) (jr_of rfl (by omega)) (by omega) (jmc S2 rfl z0) (jmc S2 rfl z1) J Sm)
      ·
        refine x_iloadn (x := l2) rfl rfl ?_
        refine x_ifne (tgt := 31) rfl rfl (ti_ne rfl jk_0 ⟨fun c5 => ?_, fun c5 => ?_⟩)
        ·
          refine x_iconst (v := 0) rfl ki_0 ?_
          exact jX.sub (jsb_c rfl (jsb_c rfl (jsb_c rfl jsb_n))) (ct_X2_readPlain_r95_c8_200032 hD hQ ih l3 g0 g1 h (jr_of rfl (by omega)) (jr_of rfl (by omega)) (jr_of rfl (by omega)) (by omega) (jmc S2 rfl z0) (jmc S2 rfl z1) (by omega) J Sm)
        ·
          refine x_iconst (v := 1) rfl ki_1 ?_
          refine x_goto (tgt := 32) rfl rfl ?_
          exact jX.sub (jsb_c rfl (jsb_c rfl (jsb_c rfl jsb_n))) (ct_X2_readPlain_r95_c8_300032 hD hQ ih l3 g0 g1 h (jr_of rfl (by omega)) (jr_of rfl (by omega)) (jr_of rfl (by omega)) (by omega) (jmc S2 rfl z0) (jmc S2 rfl z1) (by omega) J Sm)
set_option maxRecDepth 100000 in
set_option maxHeartbeats 4000000 in
theorem sf_X2_readPlain_r95_c8 {Dy : jH → Prop} {h : jH} {Q : Option Value → jH → Prop} (hD : jDk Dy) (J : jJ jSgX Dy h) {p0 p1 : Int32} (zp0 : jiv h 68 5 = p0) (zp1 : jiv h 68 3 = p1) (rl_p0 : (p0.toInt ≠ 3 ∨ p1.toInt ≤ 399)) (hQ : ∀ (v : Int32) hx9, 0 ≤ v.toInt ∧ v.toInt ≤ 1 → jJ jSgX Dy hx9 → jSm fp_X2_readPlain_r95_c8 h hx9 → ∀ u0 u1 : Int32, jiv hx9 68 5 = u0 → jiv hx9 68 3 = u1 → (u0.toInt ≠ 3 ∨ u1.toInt ≤ 399) → Q (some (.int v)) hx9) : jC m_X2_readPlain 7 0 0 [.ref 95, .int 8] h Q := by
  refine jC.of rfl k_X2_readPlain rfl ?_
  have Sm := jSm_rf fp_X2_readPlain_r95_c8 h
  have ep0 := (show 0 ≤ p0.toInt ∧ p0.toInt ≤ 3 from zp0 ▸ jrg_f J sg_68_5_6_1_0_1)
  have ep1 := (show 0 ≤ p1.toInt ∧ p1.toInt ≤ 400 from zp1 ▸ jrg_f J sg_68_3_4_1_0_1)
  show jX m_X2_readPlain 7 0 0 0 [(0, .ref 95), (1, .int 8)] [] _ 0 0 _
  refine x_iconst (v := 0) rfl ki_0 ?_
  refine x_istoren (lsx9 := [(2, .int 0), (0, .ref 95), (1, .int 8)]) rfl rfl rfl ?_
  refine x_iconst (v := 0) rfl ki_0 ?_
  refine x_istoren (lsx9 := [(3, .int 0), (2, .int 0), (0, .ref 95), (1, .int 8)]) rfl rfl rfl ?_
  exact jX.sub (jsb_c rfl (jsb_c rfl (jsb_c rfl (jsb_c rfl jsb_n)))) (ct_X2_readPlain_r95_c8_4 hD hQ  401 0 0 p1 p0 h (by have := jk_0; omega) (jr_of jk_0 (by omega)) (jr_of jk_0 (by omega)) (jr_of rfl (by omega)) (jr_of rfl (by omega)) (by omega) zp1 zp0 J Sm)
def fp_X9_wordOf_r68_r16 : jFp := []
set_option maxRecDepth 100000 in
set_option maxHeartbeats 4000000 in
theorem ct_X9_wordOf_r68_r16_110 {Dy : jH → Prop} {h0 : jH} {Q : Option Value → jH → Prop} {R23 : Int} (hD : jDk Dy) (hQ : ∀ (v : Int32) hx9, jJ jSgX Dy hx9 → jSm fp_X9_wordOf_r68_r16 h0 hx9 → Q (some (.int v)) hx9) (k23 : ∀ (l2 : Int32) (l3 : Int32) (l4 : Int32) (l5 : Int32) (g0 : Int32) (h : jH), 4 - l5.toInt < R23 → 0 ≤ l3.toInt ∧ l3.toInt ≤ 404 → 0 ≤ l4.toInt ∧ l4.toInt ≤ 1 → 0 ≤ l5.toInt ∧ l5.toInt ≤ 4 → 0 ≤ g0.toInt ∧ g0.toInt ≤ 400 → l3.toInt - l5.toInt ≤ 400 → jiv h 68 3 = g0 → jJ jSgX Dy h → jSm fp_X9_wordOf_r68_r16 h0 h → jX m_X9_wordOf 4 0 0 23 [(0, .ref 68), (1, .ref 16), (2, .int l2), (3, .int l3), (4, .int l4), (5, .int l5)] [] h 0 0 Q) : ∀ (l2 : Int32) (l3 : Int32) (l4 : Int32) (l5 : Int32) (g0 : Int32) (h : jH), 0 ≤ l3.toInt ∧ l3.toInt ≤ 404 → 0 ≤ l4.toInt ∧ l4.toInt ≤ 1 → 0 ≤ l5.toInt ∧ l5.toInt ≤ 3 → 0 ≤ g0.toInt ∧ g0.toInt ≤ 400 → l3.toInt - l5.toInt ≤ 401 → jiv h 68 3 = g0 → 4 - l5.toInt ≤ R23 → jJ jSgX Dy h → jSm fp_X9_wordOf_r68_r16 h0 h → jX m_X9_wordOf 4 0 0 110 [(0, .ref 68), (1, .ref 16), (2, .int l2), (3, .int l3), (4, .int l4), (5, .int l5)] [] h 0 0 Q := by
  intro l2 l3 l4 l5 g0 h y0 y1 y2 y3 y4 z0 m23 J Sm
  have el2 := jfull l2
  refine z_iinc (x := l5) (lsx9 := fun v1 => [(5, .int v1), (0, .ref 68), (1, .ref 16), (2, .int l2), (3, .int l3), (4, .int l4)]) rfl rfl rfl jko_1 (by omega) rfl (fun _ => rfl) (fun v1 ev1 => ?_)
  refine x_goto (tgt := 23) rfl rfl ?_
  exact jX.sub (jsb_c rfl (jsb_c rfl (jsb_c rfl (jsb_c rfl (jsb_c rfl (jsb_c rfl jsb_n)))))) (k23 l2 l3 l4 v1 g0 h (by omega) (jr_of rfl (by omega)) (jr_of rfl (by omega)) (jr_of rfl (by omega)) (jr_of rfl (by omega)) (by omega) z0 J Sm)
set_option maxRecDepth 100000 in
set_option maxHeartbeats 4000000 in
theorem ct_X9_wordOf_r68_r16_300105 {Dy : jH → Prop} {h0 : jH} {Q : Option Value → jH → Prop} {R23 : Int} (hD : jDk Dy) (hQ : ∀ (v : Int32) hx9, jJ jSgX Dy hx9 → jSm fp_X9_wordOf_r68_r16 h0 hx9 → Q (some (.int v)) hx9) (k23 : ∀ (l2 : Int32) (l3 : Int32) (l4 : Int32) (l5 : Int32) (g0 : Int32) (h : jH), 4 - l5.toInt < R23 → 0 ≤ l3.toInt ∧ l3.toInt ≤ 404 → 0 ≤ l4.toInt ∧ l4.toInt ≤ 1 → 0 ≤ l5.toInt ∧ l5.toInt ≤ 4 → 0 ≤ g0.toInt ∧ g0.toInt ≤ 400 → l3.toInt - l5.toInt ≤ 400 → jiv h 68 3 = g0 → jJ jSgX Dy h → jSm fp_X9_wordOf_r68_r16 h0 h → jX m_X9_wordOf 4 0 0 23 [(0, .ref 68), (1, .ref 16), (2, .int l2), (3, .int l3), (4, .int l4), (5, .int l5)] [] h 0 0 Q) : ∀ (l2 : Int32) (l3 : Int32) (l5 : Int32) (g0 : Int32) (h : jH), 0 ≤ l3.toInt ∧ l3.toInt ≤ 399 → 0 ≤ l5.toInt ∧ l5.toInt ≤ 3 → 0 ≤ g0.toInt ∧ g0.toInt ≤ 400 → l3.toInt - l5.toInt ≤ 400 → jiv h 68 3 = g0 → 4 - l5.toInt ≤ R23 → jJ jSgX Dy h → jSm fp_X9_wordOf_r68_r16 h0 h → jX m_X9_wordOf 4 0 0 105 [(0, .ref 68), (1, .ref 16), (2, .int l2), (3, .int l3), (5, .int l5)] [.int 1] h 0 0 Q := by
  intro l2 l3 l5 g0 h y0 y1 y2 y3 z0 m23 J Sm
  have el2 := jfull l2
  refine x_istore (lsx9 := [(4, .int 1), (0, .ref 68), (1, .ref 16), (2, .int l2), (3, .int l3), (5, .int l5)]) rfl rfl rfl ?_
  refine z_iinc (x := l3) (lsx9 := fun v1 => [(3, .int v1), (4, .int 1), (0, .ref 68), (1, .ref 16), (2, .int l2), (5, .int l5)]) rfl rfl rfl jko_1 (by omega) rfl (fun _ => rfl) (fun v1 ev1 => ?_)
  exact jX.sub (jsb_c rfl (jsb_c rfl (jsb_c rfl (jsb_c rfl (jsb_c rfl (jsb_c rfl jsb_n)))))) (ct_X9_wordOf_r68_r16_110 hD hQ k23 l2 v1 1 l5 g0 h (jr_of rfl (by omega)) (jr_of jk_1 (by omega)) (jr_of rfl (by omega)) (jr_of rfl (by omega)) (by omega) z0 (by omega) J Sm)
set_option maxRecDepth 100000 in
set_option maxHeartbeats 4000000 in
theorem ct_X9_wordOf_r68_r16_200105 {Dy : jH → Prop} {h0 : jH} {Q : Option Value → jH → Prop} {R23 : Int} (hD : jDk Dy) (hQ : ∀ (v : Int32) hx9, jJ jSgX Dy hx9 → jSm fp_X9_wordOf_r68_r16 h0 hx9 → Q (some (.int v)) hx9) (k23 : ∀ (l2 : Int32) (l3 : Int32) (l4 : Int32) (l5 : Int32) (g0 : Int32) (h : jH), 4 - l5.toInt < R23 → 0 ≤ l3.toInt ∧ l3.toInt ≤ 404 → 0 ≤ l4.toInt ∧ l4.toInt ≤ 1 → 0 ≤ l5.toInt ∧ l5.toInt ≤ 4 → 0 ≤ g0.toInt ∧ g0.toInt ≤ 400 → l3.toInt - l5.toInt ≤ 400 → jiv h 68 3 = g0 → jJ jSgX Dy h → jSm fp_X9_wordOf_r68_r16 h0 h → jX m_X9_wordOf 4 0 0 23 [(0, .ref 68), (1, .ref 16), (2, .int l2), (3, .int l3), (4, .int l4), (5, .int l5)] [] h 0 0 Q) : ∀ (l2 : Int32) (l3 : Int32) (l5 : Int32) (g0 : Int32) (h : jH), 0 ≤ l3.toInt ∧ l3.toInt ≤ 403 → 0 ≤ l5.toInt ∧ l5.toInt ≤ 3 → 0 ≤ g0.toInt ∧ g0.toInt ≤ 400 → l3.toInt - l5.toInt ≤ 400 → jiv h 68 3 = g0 → 4 - l5.toInt ≤ R23 → jJ jSgX Dy h → jSm fp_X9_wordOf_r68_r16 h0 h → jX m_X9_wordOf 4 0 0 105 [(0, .ref 68), (1, .ref 16), (2, .int l2), (3, .int l3), (5, .int l5)] [.int 0] h 0 0 Q := by
  intro l2 l3 l5 g0 h y0 y1 y2 y3 z0 m23 J Sm
  have el2 := jfull l2
  refine x_istore (lsx9 := [(4, .int 0), (0, .ref 68), (1, .ref 16), (2, .int l2), (3, .int l3), (5, .int l5)]) rfl rfl rfl ?_
  refine z_iinc (x := l3) (lsx9 := fun v1 => [(3, .int v1), (4, .int 0), (0, .ref 68), (1, .ref 16), (2, .int l2), (5, .int l5)]) rfl rfl rfl jko_1 (by omega) rfl (fun _ => rfl) (fun v1 ev1 => ?_)
  exact jX.sub (jsb_c rfl (jsb_c rfl (jsb_c rfl (jsb_c rfl (jsb_c rfl (jsb_c rfl jsb_n)))))) (ct_X9_wordOf_r68_r16_110 hD hQ k23 l2 v1 0 l5 g0 h (jr_of rfl (by omega)) (jr_of jk_0 (by omega)) (jr_of rfl (by omega)) (jr_of rfl (by omega)) (by omega) z0 (by omega) J Sm)
set_option maxRecDepth 100000 in
set_option maxHeartbeats 4000000 in
theorem ct_X9_wordOf_r68_r16_104 {Dy : jH → Prop} {h0 : jH} {Q : Option Value → jH → Prop} {R23 : Int} (hD : jDk Dy) (hQ : ∀ (v : Int32) hx9, jJ jSgX Dy hx9 → jSm fp_X9_wordOf_r68_r16 h0 hx9 → Q (some (.int v)) hx9) (k23 : ∀ (l2 : Int32) (l3 : Int32) (l4 : Int32) (l5 : Int32) (g0 : Int32) (h : jH), 4 - l5.toInt < R23 → 0 ≤ l3.toInt ∧ l3.toInt ≤ 404 → 0 ≤ l4.toInt ∧ l4.toInt ≤ 1 → 0 ≤ l5.toInt ∧ l5.toInt ≤ 4 → 0 ≤ g0.toInt ∧ g0.toInt ≤ 400 → l3.toInt - l5.toInt ≤ 400 → jiv h 68 3 = g0 → jJ jSgX Dy h → jSm fp_X9_wordOf_r68_r16 h0 h → jX m_X9_wordOf 4 0 0 23 [(0, .ref 68), (1, .ref 16), (2, .int l2), (3, .int l3), (4, .int l4), (5, .int l5)] [] h 0 0 Q) : ∀ (l2 : Int32) (l3 : Int32) (l5 : Int32) (g0 : Int32) (h : jH), 0 ≤ l3.toInt ∧ l3.toInt ≤ 403 → 0 ≤ l5.toInt ∧ l5.toInt ≤ 3 → 0 ≤ g0.toInt ∧ g0.toInt ≤ 400 → l3.toInt - l5.toInt ≤ 400 → jiv h 68 3 = g0 → 4 - l5.toInt ≤ R23 → jJ jSgX Dy h → jSm fp_X9_wordOf_r68_r16 h0 h → jX m_X9_wordOf 4 0 0 104 [(0, .ref 68), (1, .ref 16), (2, .int l2), (3, .int l3), (5, .int l5)] [] h 0 0 Q := by
  intro l2 l3 l5 g0 h y0 y1 y2 y3 z0 m23 J Sm
  have el2 := jfull l2
  refine x_iconst (v := 0) rfl ki_0 ?_
  exact jX.sub (jsb_c rfl (jsb_c rfl (jsb_c rfl (jsb_c rfl (jsb_c rfl jsb_n))))) (ct_X9_wordOf_r68_r16_200105 hD hQ k23 l2 l3 l5 g0 h (jr_of rfl (by omega)) (jr_of rfl (by omega)) (jr_of rfl (by omega)) (by omega) z0 (by omega) J Sm)
set_option maxRecDepth 100000 in
set_option maxHeartbeats 4000000 in
theorem ct_X9_wordOf_r68_r16_62 {Dy : jH → Prop} {h0 : jH} {Q : Option Value → jH → Prop} {R23 : Int} (hD : jDk Dy) (hQ : ∀ (v : Int32) hx9, jJ jSgX Dy hx9 → jSm fp_X9_wordOf_r68_r16 h0 hx9 → Q (some (.int v)) hx9) (k23 : ∀ (l2 : Int32) (l3 : Int32) (l4 : Int32) (l5 : Int32) (g0 : Int32) (h : jH), 4 - l5.toInt < R23 → 0 ≤ l3.toInt ∧ l3.toInt ≤ 404 → 0 ≤ l4.toInt ∧ l4.toInt ≤ 1 → 0 ≤ l5.toInt ∧ l5.toInt ≤ 4 → 0 ≤ g0.toInt ∧ g0.toInt ≤ 400 → l3.toInt - l5.toInt ≤ 400 → jiv h 68 3 = g0 → jJ jSgX Dy h → jSm fp_X9_wordOf_r68_r16 h0 h → jX m_X9_wordOf 4 0 0 23 [(0, .ref 68), (1, .ref 16), (2, .int l2), (3, .int l3), (4, .int l4), (5, .int l5)] [] h 0 0 Q) : ∀ (l2 : Int32) (l5 : Int32) (g0 : Int32) (h : jH), 0 ≤ l5.toInt ∧ l5.toInt ≤ 3 → 0 ≤ g0.toInt ∧ g0.toInt ≤ 400 → jiv h 68 3 = g0 → 4 - l5.toInt ≤ R23 → jJ jSgX Dy h → jSm fp_X9_wordOf_r68_r16 h0 h → jX m_X9_wordOf 4 0 0 62 [(0, .ref 68), (1, .ref 16), (2, .int l2), (5, .int l5)] [] h 0 0 Q := by
  intro l2 l5 g0 h y0 y1 z0 m23 J Sm
  have el2 := jfull l2
  refine z_iinc0 (x := l2) (lsx9 := fun v1 => [(2, .int v1), (0, .ref 68), (1, .ref 16), (5, .int l5)]) rfl rfl rfl (fun _ => rfl) (fun v1 => ?_)
  have ev1 := jfull v1
  refine x_aloadn (x := 68) rfl rfl ?_
  refine z_getM (N := 6) (v := g0) 9 3 rfl f_9_22 rfl J rfl z0 ?_
  refine x_istoren (lsx9 := [(3, .int g0), (2, .int v1), (0, .ref 68), (1, .ref 16), (5, .int l5)]) rfl rfl rfl ?_
  refine x_iconst (v := 1) rfl ki_1 ?_
  refine x_istore (lsx9 := [(4, .int 1), (3, .int g0), (2, .int v1), (0, .ref 68), (1, .ref 16), (5, .int l5)]) rfl rfl rfl ?_
  refine x_goto (tgt := 110) rfl rfl ?_
  exact jX.sub (jsb_c rfl (jsb_c rfl (jsb_c rfl (jsb_c rfl (jsb_c rfl (jsb_c rfl jsb_n)))))) (ct_X9_wordOf_r68_r16_110 hD hQ k23 v1 g0 1 l5 g0 h (jr_of rfl (by omega)) (jr_of jk_1 (by omega)) (jr_of rfl (by omega)) (jr_of rfl (by omega)) (by omega) z0 (by omega) J Sm)
set_option maxRecDepth 100000 in
set_option maxHeartbeats 4000000 in
theorem ct_X9_wordOf_r68_r16_23 {Dy : jH → Prop} {h0 : jH} {Q : Option Value → jH → Prop} (hD : jDk Dy) (hQ : ∀ (v : Int32) hx9, jJ jSgX Dy hx9 → jSm fp_X9_wordOf_r68_r16 h0 hx9 → Q (some (.int v)) hx9) : ∀ r : Nat, ∀ (l2 : Int32) (l3 : Int32) (l4 : Int32) (l5 : Int32) (g0 : Int32) (h : jH), 4 - l5.toInt < (r : Int) → 0 ≤ l3.toInt ∧ l3.toInt ≤ 404 → 0 ≤ l4.toInt ∧ l4.toInt ≤ 1 → 0 ≤ l5.toInt ∧ l5.toInt ≤ 4 → 0 ≤ g0.toInt ∧ g0.toInt ≤ 400 → l3.toInt - l5.toInt ≤ 400 → jiv h 68 3 = g0 → jJ jSgX Dy h → jSm fp_X9_wordOf_r68_r16 h0 h → jX m_X9_wordOf 4 0 0 23 [(0, .ref 68), (1, .ref 16), (2, .int l2), (3, .int l3), (4, .int l4), (5, .int l5)] [] h 0 0 Q := by
  intro r
  induction r with
  | zero =>
    intro l2 l3 l4 l5 g0 h hm y0 y1 y2 y3 y4 z0  J Sm
    exfalso
    have el2 := jfull l2
    omega
  | succ r ih =>
    intro l2 l3 l4 l5 g0 h hm y0 y1 y2 y3 y4 z0  J Sm
    have el2 := jfull l2
    refine x_iload (x := l5) rfl rfl ?_
    refine x_aloadn (x := 16) rfl rfl ?_
    refine x_invS (N := m_J0_length_8abf5) (i := 11) (As := []) (st := [.int l5]) (dx9 := 1) (by decide) rfl t_J0_length_8abf5 ⟨q_9_38, i_J0_length_8abf5.1, i_J0_length_8abf5.2⟩ rfl rfl (by decide) rfl rfl (zc_slen (N := 4) (v := 4) rfl J rfl rfl (by decide) ?_)
    show jX m_X9_wordOf 4 0 0 29 [(0, .ref 68), (1, .ref 16), (2, .int l2), (3, .int l3), (4, .int l4), (5, .int l5)] [.int 4, .int l5] _ 0 0 _
    refine x_icge (tgt := 116) rfl rfl (ti_ge rfl jk_4 ⟨fun c1 => ?_, fun c1 => ?_⟩)
    ·
      refine x_iconst (v := (-1)) rfl ki_m1 ?_
      refine x_iret rfl rfl ?_
      exact hQ _ _ J Sm
    ·
      refine x_aloadn (x := 16) rfl rfl ?_
      refine x_iload (x := l5) rfl rfl ?_
      refine x_invS (N := m_J0_charAt_5068e) (i := 11) (As := [.int l5]) (st := []) (dx9 := 3) (by decide) rfl t_J0_charAt_5068e ⟨q_9_43, i_J0_charAt_5068e.1, i_J0_charAt_5068e.2⟩ rfl rfl (by decide) rfl rfl (zc_schar (N := 4) rfl J rfl rfl rfl (by omega) (fun v2 ev2 => ?_))
      show jX m_X9_wordOf 4 0 0 38 [(0, .ref 68), (1, .ref 16), (2, .int l2), (3, .int l3), (4, .int l4), (5, .int l5)] [.int v2] _ 0 0 _
      refine x_istore (lsx9 := [(6, .int v2), (0, .ref 68), (1, .ref 16), (2, .int l2), (3, .int l3), (4, .int l4), (5, .int l5)]) rfl rfl rfl ?_
      refine x_iload (x := v2) rfl rfl ?_
      refine x_bipush (v := 32) rfl kb_32 ?_
      refine x_icne (tgt := 76) rfl rfl (ti_ne rfl jk_32 ⟨fun c3 => ?_, fun c3 => ?_⟩)
      ·
        refine x_iload (x := l4) rfl rfl ?_
        refine x_ifeq (tgt := 104) rfl rfl (ti_eq rfl jk_0 ⟨fun c4 => ?_, fun c4 => ?_⟩)
        ·
          exact jX.sub (jsb_c rfl (jsb_c rfl (jsb_c rfl (jsb_c rfl (jsb_c rfl jsb_n))))) (ct_X9_wordOf_r68_r16_104 hD hQ ih l2 l3 l5 g0 h (jr_of rfl (by omega)) (jr_of rfl (by omega)) (jr_of rfl (by omega)) (by omega) z0 (by omega) J Sm)
        ·
          refine x_iloadn (x := l3) rfl rfl ?_
          refine x_aloadn (x := 68) rfl rfl ?_
          refine z_getI (N := 6) 9 4 rfl f_9_25 rfl J rfl sg_68_4_5_1_0_1 (fun v5 qv5 ev5 => ?_)
          refine x_icge (tgt := 104) rfl rfl (ti_ge rfl rfl ⟨fun c6 => ?_, fun c6 => ?_⟩)
          ·
            exact jX.sub (jsb_c rfl (jsb_c rfl (jsb_c rfl (jsb_c rfl (jsb_c rfl jsb_n))))) (ct_X9_wordOf_r68_r16_104 hD hQ ih l2 l3 l5 g0 h (jr_of rfl (by omega)) (jr_of rfl (by omega)) (jr_of rfl (by omega)) (by omega) z0 (by omega) J Sm)
          ·
            refine x_aloadn (x := 68) rfl rfl ?_
            refine z_getR (N := 6) (b := 69) 9 0 rfl f_9_11 rfl J rfl 8704 ⟨rfl, rfl⟩ rfl ?_
            refine x_iloadn (x := l3) rfl rfl ?_
            refine z_iald (N := 400) rfl J rfl sg_69_0_400_1_0_1 rfl (by omega) (fun v7 qv7 ev7 => ?_)
            refine x_iload (x := v2) rfl rfl ?_
            refine x_icne (tgt := 104) rfl rfl (ti_ne rfl rfl ⟨fun c8 => ?_, fun c8 => ?_⟩)
            ·
              exact jX.sub (jsb_c rfl (jsb_c rfl (jsb_c rfl (jsb_c rfl (jsb_c rfl jsb_n))))) (ct_X9_wordOf_r68_r16_104 hD hQ ih l2 l3 l5 g0 h (jr_of rfl (by omega)) (jr_of rfl (by omega)) (jr_of rfl (by omega)) (by omega) z0 (by omega) J Sm)
            ·
              refine x_iconst (v := 1) rfl ki_1 ?_
              refine x_goto (tgt := 105) rfl rfl ?_
              exact jX.sub (jsb_c rfl (jsb_c rfl (jsb_c rfl (jsb_c rfl (jsb_c rfl jsb_n))))) (ct_X9_wordOf_r68_r16_300105 hD hQ ih l2 l3 l5 g0 h (jr_of rfl (by omega)) (jr_of rfl (by omega)) (jr_of rfl (by omega)) (by omega) z0 (by omega) J Sm)
      ·
        refine x_iload (x := l4) rfl rfl ?_
        refine x_ifeq (tgt := 62) rfl rfl (ti_eq rfl jk_0 ⟨fun c9 => ?_, fun c9 => ?_⟩)
        ·
          exact jX.sub (jsb_c rfl (jsb_c rfl (jsb_c rfl (jsb_c rfl jsb_n)))) (ct_X9_wordOf_r68_r16_62 hD hQ ih l2 l5 g0 h (jr_of rfl (by omega)) (jr_of rfl (by omega)) z0 (by omega) J Sm)
        ·
          refine x_iloadn (x := l3) rfl rfl ?_
          refine x_aloadn (x := 68) rfl rfl ?_
          refine z_getI (N := 6) 9 4 rfl f_9_25 rfl J rfl sg_68_4_5_1_0_1 (fun v10 qv10 ev10 => ?_)
          refine x_icne (tgt := 62) rfl rfl (ti_ne rfl rfl ⟨fun c11 => ?_, fun c11 => ?_⟩)
          ·
            exact jX.sub (jsb_c rfl (jsb_c rfl (jsb_c rfl (jsb_c rfl jsb_n)))) (ct_X9_wordOf_r68_r16_62 hD hQ ih l2 l5 g0 h (jr_of rfl (by omega)) (jr_of rfl (by omega)) z0 (by omega) J Sm)
          ·
            refine x_iloadn (x := l2) rfl rfl ?_
            refine x_iret rfl rfl ?_
            exact hQ _ _ J Sm
set_option maxRecDepth 100000 in
set_option maxHeartbeats 4000000 in
theorem sf_X9_wordOf_r68_r16 {Dy : jH → Prop} {h : jH} {Q : Option Value → jH → Prop} (hD : jDk Dy) (J : jJ jSgX Dy h) (hQ : ∀ (v : Int32) hx9, jJ jSgX Dy hx9 → jSm fp_X9_wordOf_r68_r16 h hx9 → Q (some (.int v)) hx9) : jC m_X9_wordOf 4 0 0 [.ref 68, .ref 16] h Q := by
  refine jC.of rfl k_X9_wordOf rfl ?_
  have Sm := jSm_rf fp_X9_wordOf_r68_r16 h
  show jX m_X9_wordOf 4 0 0 0 [(0, .ref 68), (1, .ref 16)] [] _ 0 0 _
  refine x_aloadn (x := 68) rfl rfl ?_
  refine z_getI (N := 6) 9 5 rfl f_9_28 rfl J rfl sg_68_5_6_1_0_1 (fun v1 qv1 ev1 => ?_)
  refine x_iconst (v := 1) rfl ki_1 ?_
  refine x_iceq (tgt := 10) rfl rfl (ti_eq rfl jk_1 ⟨fun c2 => ?_, fun c2 => ?_⟩)
  ·
    refine x_iconst (v := 0) rfl ki_0 ?_
    refine x_istoren (lsx9 := [(2, .int 0), (0, .ref 68), (1, .ref 16)]) rfl rfl rfl ?_
    refine x_aloadn (x := 68) rfl rfl ?_
    refine z_getI (N := 6) 9 3 rfl f_9_22 rfl J rfl sg_68_3_4_1_0_1 (fun v3 qv3 ev3 => ?_)
    refine x_istoren (lsx9 := [(3, .int v3), (2, .int 0), (0, .ref 68), (1, .ref 16)]) rfl rfl rfl ?_
    refine x_iconst (v := 1) rfl ki_1 ?_
    refine x_istore (lsx9 := [(4, .int 1), (3, .int v3), (2, .int 0), (0, .ref 68), (1, .ref 16)]) rfl rfl rfl ?_
    refine x_iconst (v := 0) rfl ki_0 ?_
    refine x_istore (lsx9 := [(5, .int 0), (4, .int 1), (3, .int v3), (2, .int 0), (0, .ref 68), (1, .ref 16)]) rfl rfl rfl ?_
    exact jX.sub (jsb_c rfl (jsb_c rfl (jsb_c rfl (jsb_c rfl (jsb_c rfl (jsb_c rfl jsb_n)))))) (ct_X9_wordOf_r68_r16_23 hD hQ  5 0 v3 1 0 v3 h (by have := jk_0; omega) (jr_of rfl (by omega)) (jr_of jk_1 (by omega)) (jr_of jk_0 (by omega)) (jr_of rfl (by omega)) (by have := jk_0; omega) qv3 J Sm)
  ·
    refine x_iconst (v := (-1)) rfl ki_m1 ?_
    refine x_iret rfl rfl ?_
    exact hQ _ _ J Sm
def fp_X9_wordOf_r68_r17 : jFp := []
set_option maxRecDepth 100000 in
set_option maxHeartbeats 4000000 in
theorem ct_X9_wordOf_r68_r17_110 {Dy : jH → Prop} {h0 : jH} {Q : Option Value → jH → Prop} {R23 : Int} (hD : jDk Dy) (hQ : ∀ (v : Int32) hx9, jJ jSgX Dy hx9 → jSm fp_X9_wordOf_r68_r17 h0 hx9 → Q (some (.int v)) hx9) (k23 : ∀ (l2 : Int32) (l3 : Int32) (l4 : Int32) (l5 : Int32) (g0 : Int32) (h : jH), 3 - l5.toInt < R23 → 0 ≤ l3.toInt ∧ l3.toInt ≤ 403 → 0 ≤ l4.toInt ∧ l4.toInt ≤ 1 → 0 ≤ l5.toInt ∧ l5.toInt ≤ 3 → 0 ≤ g0.toInt ∧ g0.toInt ≤ 400 → l3.toInt - l5.toInt ≤ 400 → jiv h 68 3 = g0 → jJ jSgX Dy h → jSm fp_X9_wordOf_r68_r17 h0 h → jX m_X9_wordOf 4 0 0 23 [(0, .ref 68), (1, .ref 17), (2, .int l2), (3, .int l3), (4, .int l4), (5, .int l5)] [] h 0 0 Q) : ∀ (l2 : Int32) (l3 : Int32) (l4 : Int32) (l5 : Int32) (g0 : Int32) (h : jH), 0 ≤ l3.toInt ∧ l3.toInt ≤ 403 → 0 ≤ l4.toInt ∧ l4.toInt ≤ 1 → 0 ≤ l5.toInt ∧ l5.toInt ≤ 2 → 0 ≤ g0.toInt ∧ g0.toInt ≤ 400 → l3.toInt - l5.toInt ≤ 401 → jiv h 68 3 = g0 → 3 - l5.toInt ≤ R23 → jJ jSgX Dy h → jSm fp_X9_wordOf_r68_r17 h0 h → jX m_X9_wordOf 4 0 0 110 [(0, .ref 68), (1, .ref 17), (2, .int l2), (3, .int l3), (4, .int l4), (5, .int l5)] [] h 0 0 Q := by
  intro l2 l3 l4 l5 g0 h y0 y1 y2 y3 y4 z0 m23 J Sm
  have el2 := jfull l2
  refine z_iinc (x := l5) (lsx9 := fun v1 => [(5, .int v1), (0, .ref 68), (1, .ref 17), (2, .int l2), (3, .int l3), (4, .int l4)]) rfl rfl rfl jko_1 (by omega) rfl (fun _ => rfl) (fun v1 ev1 => ?_)
  refine x_goto (tgt := 23) rfl rfl ?_
  exact jX.sub (jsb_c rfl (jsb_c rfl (jsb_c rfl (jsb_c rfl (jsb_c rfl (jsb_c rfl jsb_n)))))) (k23 l2 l3 l4 v1 g0 h (by omega) (jr_of rfl (by omega)) (jr_of rfl (by omega)) (jr_of rfl (by omega)) (jr_of rfl (by omega)) (by omega) z0 J Sm)
set_option maxRecDepth 100000 in
set_option maxHeartbeats 4000000 in
theorem ct_X9_wordOf_r68_r17_300105 {Dy : jH → Prop} {h0 : jH} {Q : Option Value → jH → Prop} {R23 : Int} (hD : jDk Dy) (hQ : ∀ (v : Int32) hx9, jJ jSgX Dy hx9 → jSm fp_X9_wordOf_r68_r17 h0 hx9 → Q (some (.int v)) hx9) (k23 : ∀ (l2 : Int32) (l3 : Int32) (l4 : Int32) (l5 : Int32) (g0 : Int32) (h : jH), 3 - l5.toInt < R23 → 0 ≤ l3.toInt ∧ l3.toInt ≤ 403 → 0 ≤ l4.toInt ∧ l4.toInt ≤ 1 → 0 ≤ l5.toInt ∧ l5.toInt ≤ 3 → 0 ≤ g0.toInt ∧ g0.toInt ≤ 400 → l3.toInt - l5.toInt ≤ 400 → jiv h 68 3 = g0 → jJ jSgX Dy h → jSm fp_X9_wordOf_r68_r17 h0 h → jX m_X9_wordOf 4 0 0 23 [(0, .ref 68), (1, .ref 17), (2, .int l2), (3, .int l3), (4, .int l4), (5, .int l5)] [] h 0 0 Q) : ∀ (l2 : Int32) (l3 : Int32) (l5 : Int32) (g0 : Int32) (h : jH), 0 ≤ l3.toInt ∧ l3.toInt ≤ 399 → 0 ≤ l5.toInt ∧ l5.toInt ≤ 2 → 0 ≤ g0.toInt ∧ g0.toInt ≤ 400 → l3.toInt - l5.toInt ≤ 400 → jiv h 68 3 = g0 → 3 - l5.toInt ≤ R23 → jJ jSgX Dy h → jSm fp_X9_wordOf_r68_r17 h0 h → jX m_X9_wordOf 4 0 0 105 [(0, .ref 68), (1, .ref 17), (2, .int l2), (3, .int l3), (5, .int l5)] [.int 1] h 0 0 Q := by
  intro l2 l3 l5 g0 h y0 y1 y2 y3 z0 m23 J Sm
  have el2 := jfull l2
  refine x_istore (lsx9 := [(4, .int 1), (0, .ref 68), (1, .ref 17), (2, .int l2), (3, .int l3), (5, .int l5)]) rfl rfl rfl ?_
  refine z_iinc (x := l3) (lsx9 := fun v1 => [(3, .int v1), (4, .int 1), (0, .ref 68), (1, .ref 17), (2, .int l2), (5, .int l5)]) rfl rfl rfl jko_1 (by omega) rfl (fun _ => rfl) (fun v1 ev1 => ?_)
  exact jX.sub (jsb_c rfl (jsb_c rfl (jsb_c rfl (jsb_c rfl (jsb_c rfl (jsb_c rfl jsb_n)))))) (ct_X9_wordOf_r68_r17_110 hD hQ k23 l2 v1 1 l5 g0 h (jr_of rfl (by omega)) (jr_of jk_1 (by omega)) (jr_of rfl (by omega)) (jr_of rfl (by omega)) (by omega) z0 (by omega) J Sm)
set_option maxRecDepth 100000 in
set_option maxHeartbeats 4000000 in
theorem ct_X9_wordOf_r68_r17_200105 {Dy : jH → Prop} {h0 : jH} {Q : Option Value → jH → Prop} {R23 : Int} (hD : jDk Dy) (hQ : ∀ (v : Int32) hx9, jJ jSgX Dy hx9 → jSm fp_X9_wordOf_r68_r17 h0 hx9 → Q (some (.int v)) hx9) (k23 : ∀ (l2 : Int32) (l3 : Int32) (l4 : Int32) (l5 : Int32) (g0 : Int32) (h : jH), 3 - l5.toInt < R23 → 0 ≤ l3.toInt ∧ l3.toInt ≤ 403 → 0 ≤ l4.toInt ∧ l4.toInt ≤ 1 → 0 ≤ l5.toInt ∧ l5.toInt ≤ 3 → 0 ≤ g0.toInt ∧ g0.toInt ≤ 400 → l3.toInt - l5.toInt ≤ 400 → jiv h 68 3 = g0 → jJ jSgX Dy h → jSm fp_X9_wordOf_r68_r17 h0 h → jX m_X9_wordOf 4 0 0 23 [(0, .ref 68), (1, .ref 17), (2, .int l2), (3, .int l3), (4, .int l4), (5, .int l5)] [] h 0 0 Q) : ∀ (l2 : Int32) (l3 : Int32) (l5 : Int32) (g0 : Int32) (h : jH), 0 ≤ l3.toInt ∧ l3.toInt ≤ 402 → 0 ≤ l5.toInt ∧ l5.toInt ≤ 2 → 0 ≤ g0.toInt ∧ g0.toInt ≤ 400 → l3.toInt - l5.toInt ≤ 400 → jiv h 68 3 = g0 → 3 - l5.toInt ≤ R23 → jJ jSgX Dy h → jSm fp_X9_wordOf_r68_r17 h0 h → jX m_X9_wordOf 4 0 0 105 [(0, .ref 68), (1, .ref 17), (2, .int l2), (3, .int l3), (5, .int l5)] [.int 0] h 0 0 Q := by
  intro l2 l3 l5 g0 h y0 y1 y2 y3 z0 m23 J Sm
  have el2 := jfull l2
  refine x_istore (lsx9 := [(4, .int 0), (0, .ref 68), (1, .ref 17), (2, .int l2), (3, .int l3), (5, .int l5)]) rfl rfl rfl ?_
  refine z_iinc (x := l3) (lsx9 := fun v1 => [(3, .int v1), (4, .int 0), (0, .ref 68), (1, .ref 17), (2, .int l2), (5, .int l5)]) rfl rfl rfl jko_1 (by omega) rfl (fun _ => rfl) (fun v1 ev1 => ?_)
  exact jX.sub (jsb_c rfl (jsb_c rfl (jsb_c rfl (jsb_c rfl (jsb_c rfl (jsb_c rfl jsb_n)))))) (ct_X9_wordOf_r68_r17_110 hD hQ k23 l2 v1 0 l5 g0 h (jr_of rfl (by omega)) (jr_of jk_0 (by omega)) (jr_of rfl (by omega)) (jr_of rfl (by omega)) (by omega) z0 (by omega) J Sm)
set_option maxRecDepth 100000 in
set_option maxHeartbeats 4000000 in
theorem ct_X9_wordOf_r68_r17_104 {Dy : jH → Prop} {h0 : jH} {Q : Option Value → jH → Prop} {R23 : Int} (hD : jDk Dy) (hQ : ∀ (v : Int32) hx9, jJ jSgX Dy hx9 → jSm fp_X9_wordOf_r68_r17 h0 hx9 → Q (some (.int v)) hx9) (k23 : ∀ (l2 : Int32) (l3 : Int32) (l4 : Int32) (l5 : Int32) (g0 : Int32) (h : jH), 3 - l5.toInt < R23 → 0 ≤ l3.toInt ∧ l3.toInt ≤ 403 → 0 ≤ l4.toInt ∧ l4.toInt ≤ 1 → 0 ≤ l5.toInt ∧ l5.toInt ≤ 3 → 0 ≤ g0.toInt ∧ g0.toInt ≤ 400 → l3.toInt - l5.toInt ≤ 400 → jiv h 68 3 = g0 → jJ jSgX Dy h → jSm fp_X9_wordOf_r68_r17 h0 h → jX m_X9_wordOf 4 0 0 23 [(0, .ref 68), (1, .ref 17), (2, .int l2), (3, .int l3), (4, .int l4), (5, .int l5)] [] h 0 0 Q) : ∀ (l2 : Int32) (l3 : Int32) (l5 : Int32) (g0 : Int32) (h : jH), 0 ≤ l3.toInt ∧ l3.toInt ≤ 402 → 0 ≤ l5.toInt ∧ l5.toInt ≤ 2 → 0 ≤ g0.toInt ∧ g0.toInt ≤ 400 → l3.toInt - l5.toInt ≤ 400 → jiv h 68 3 = g0 → 3 - l5.toInt ≤ R23 → jJ jSgX Dy h → jSm fp_X9_wordOf_r68_r17 h0 h → jX m_X9_wordOf 4 0 0 104 [(0, .ref 68), (1, .ref 17), (2, .int l2), (3, .int l3), (5, .int l5)] [] h 0 0 Q := by
  intro l2 l3 l5 g0 h y0 y1 y2 y3 z0 m23 J Sm
  have el2 := jfull l2
  refine x_iconst (v := 0) rfl ki_0 ?_
  exact jX.sub (jsb_c rfl (jsb_c rfl (jsb_c rfl (jsb_c rfl (jsb_c rfl jsb_n))))) (ct_X9_wordOf_r68_r17_200105 hD hQ k23 l2 l3 l5 g0 h (jr_of rfl (by omega)) (jr_of rfl (by omega)) (jr_of rfl (by omega)) (by omega) z0 (by omega) J Sm)
set_option maxRecDepth 100000 in
set_option maxHeartbeats 4000000 in
theorem ct_X9_wordOf_r68_r17_62 {Dy : jH → Prop} {h0 : jH} {Q : Option Value → jH → Prop} {R23 : Int} (hD : jDk Dy) (hQ : ∀ (v : Int32) hx9, jJ jSgX Dy hx9 → jSm fp_X9_wordOf_r68_r17 h0 hx9 → Q (some (.int v)) hx9) (k23 : ∀ (l2 : Int32) (l3 : Int32) (l4 : Int32) (l5 : Int32) (g0 : Int32) (h : jH), 3 - l5.toInt < R23 → 0 ≤ l3.toInt ∧ l3.toInt ≤ 403 → 0 ≤ l4.toInt ∧ l4.toInt ≤ 1 → 0 ≤ l5.toInt ∧ l5.toInt ≤ 3 → 0 ≤ g0.toInt ∧ g0.toInt ≤ 400 → l3.toInt - l5.toInt ≤ 400 → jiv h 68 3 = g0 → jJ jSgX Dy h → jSm fp_X9_wordOf_r68_r17 h0 h → jX m_X9_wordOf 4 0 0 23 [(0, .ref 68), (1, .ref 17), (2, .int l2), (3, .int l3), (4, .int l4), (5, .int l5)] [] h 0 0 Q) : ∀ (l2 : Int32) (l5 : Int32) (g0 : Int32) (h : jH), 0 ≤ l5.toInt ∧ l5.toInt ≤ 2 → 0 ≤ g0.toInt ∧ g0.toInt ≤ 400 → jiv h 68 3 = g0 → 3 - l5.toInt ≤ R23 → jJ jSgX Dy h → jSm fp_X9_wordOf_r68_r17 h0 h → jX m_X9_wordOf 4 0 0 62 [(0, .ref 68), (1, .ref 17), (2, .int l2), (5, .int l5)] [] h 0 0 Q := by
  intro l2 l5 g0 h y0 y1 z0 m23 J Sm
  have el2 := jfull l2
  refine z_iinc0 (x := l2) (lsx9 := fun v1 => [(2, .int v1), (0, .ref 68), (1, .ref 17), (5, .int l5)]) rfl rfl rfl (fun _ => rfl) (fun v1 => ?_)
  have ev1 := jfull v1
  refine x_aloadn (x := 68) rfl rfl ?_
  refine z_getM (N := 6) (v := g0) 9 3 rfl f_9_22 rfl J rfl z0 ?_
  refine x_istoren (lsx9 := [(3, .int g0), (2, .int v1), (0, .ref 68), (1, .ref 17), (5, .int l5)]) rfl rfl rfl ?_
  refine x_iconst (v := 1) rfl ki_1 ?_
  refine x_istore (lsx9 := [(4, .int 1), (3, .int g0), (2, .int v1), (0, .ref 68), (1, .ref 17), (5, .int l5)]) rfl rfl rfl ?_
  refine x_goto (tgt := 110) rfl rfl ?_
  exact jX.sub (jsb_c rfl (jsb_c rfl (jsb_c rfl (jsb_c rfl (jsb_c rfl (jsb_c rfl jsb_n)))))) (ct_X9_wordOf_r68_r17_110 hD hQ k23 v1 g0 1 l5 g0 h (jr_of rfl (by omega)) (jr_of jk_1 (by omega)) (jr_of rfl (by omega)) (jr_of rfl (by omega)) (by omega) z0 (by omega) J Sm)
set_option maxRecDepth 100000 in
set_option maxHeartbeats 4000000 in
theorem ct_X9_wordOf_r68_r17_23 {Dy : jH → Prop} {h0 : jH} {Q : Option Value → jH → Prop} (hD : jDk Dy) (hQ : ∀ (v : Int32) hx9, jJ jSgX Dy hx9 → jSm fp_X9_wordOf_r68_r17 h0 hx9 → Q (some (.int v)) hx9) : ∀ r : Nat, ∀ (l2 : Int32) (l3 : Int32) (l4 : Int32) (l5 : Int32) (g0 : Int32) (h : jH), 3 - l5.toInt < (r : Int) → 0 ≤ l3.toInt ∧ l3.toInt ≤ 403 → 0 ≤ l4.toInt ∧ l4.toInt ≤ 1 → 0 ≤ l5.toInt ∧ l5.toInt ≤ 3 → 0 ≤ g0.toInt ∧ g0.toInt ≤ 400 → l3.toInt - l5.toInt ≤ 400 → jiv h 68 3 = g0 → jJ jSgX Dy h → jSm fp_X9_wordOf_r68_r17 h0 h → jX m_X9_wordOf 4 0 0 23 [(0, .ref 68), (1, .ref 17), (2, .int l2), (3, .int l3), (4, .int l4), (5, .int l5)] [] h 0 0 Q := by
  intro r
  induction r with
  | zero =>
    intro l2 l3 l4 l5 g0 h hm y0 y1 y2 y3 y4 z0  J Sm
    exfalso
    have el2 := jfull l2
    omega
  | succ r ih =>
    intro l2 l3 l4 l5 g0 h hm y0 y1 y2 y3 y4 z0  J Sm
    have el2 := jfull l2
    refine x_iload (x := l5) rfl rfl ?_
    refine x_aloadn (x := 17) rfl rfl ?_
    refine x_invS (N := m_J0_length_8abf5) (i := 12) (As := []) (st := [.int l5]) (dx9 := 1) (by decide) rfl t_J0_length_8abf5 ⟨q_9_38, i_J0_length_8abf5.1, i_J0_length_8abf5.2⟩ rfl rfl (by decide) rfl rfl (zc_slen (N := 3) (v := 3) rfl J rfl rfl (by decide) ?_)
    show jX m_X9_wordOf 4 0 0 29 [(0, .ref 68), (1, .ref 17), (2, .int l2), (3, .int l3), (4, .int l4), (5, .int l5)] [.int 3, .int l5] _ 0 0 _
    refine x_icge (tgt := 116) rfl rfl (ti_ge rfl jk_3 ⟨fun c1 => ?_, fun c1 => ?_⟩)
    ·
      refine x_iconst (v := (-1)) rfl ki_m1 ?_
      refine x_iret rfl rfl ?_
      exact hQ _ _ J Sm
    ·
      refine x_aloadn (x := 17) rfl rfl ?_
      refine x_iload (x := l5) rfl rfl ?_
      refine x_invS (N := m_J0_charAt_5068e) (i := 12) (As := [.int l5]) (st := []) (dx9 := 3) (by decide) rfl t_J0_charAt_5068e ⟨q_9_43, i_J0_charAt_5068e.1, i_J0_charAt_5068e.2⟩ rfl rfl (by decide) rfl rfl (zc_schar (N := 3) rfl J rfl rfl rfl (by omega) (fun v2 ev2 => ?_))
      show jX m_X9_wordOf 4 0 0 38 [(0, .ref 68), (1, .ref 17), (2, .int l2), (3, .int l3), (4, .int l4), (5, .int l5)] [.int v2] _ 0 0 _
      refine x_istore (lsx9 := [(6, .int v2), (0, .ref 68), (1, .ref 17), (2, .int l2), (3, .int l3), (4, .int l4), (5, .int l5)]) rfl rfl rfl ?_
      refine x_iload (x := v2) rfl rfl ?_
      refine x_bipush (v := 32) rfl kb_32 ?_
      refine x_icne (tgt := 76) rfl rfl (ti_ne rfl jk_32 ⟨fun c3 => ?_, fun c3 => ?_⟩)
      ·
        refine x_iload (x := l4) rfl rfl ?_
        refine x_ifeq (tgt := 104) rfl rfl (ti_eq rfl jk_0 ⟨fun c4 => ?_, fun c4 => ?_⟩)
        ·
          exact jX.sub (jsb_c rfl (jsb_c rfl (jsb_c rfl (jsb_c rfl (jsb_c rfl jsb_n))))) (ct_X9_wordOf_r68_r17_104 hD hQ ih l2 l3 l5 g0 h (jr_of rfl (by omega)) (jr_of rfl (by omega)) (jr_of rfl (by omega)) (by omega) z0 (by omega) J Sm)
        ·
          refine x_iloadn (x := l3) rfl rfl ?_
          refine x_aloadn (x := 68) rfl rfl ?_
          refine z_getI (N := 6) 9 4 rfl f_9_25 rfl J rfl sg_68_4_5_1_0_1 (fun v5 qv5 ev5 => ?_)
          refine x_icge (tgt := 104) rfl rfl (ti_ge rfl rfl ⟨fun c6 => ?_, fun c6 => ?_⟩)
          ·
            exact jX.sub (jsb_c rfl (jsb_c rfl (jsb_c rfl (jsb_c rfl (jsb_c rfl jsb_n))))) (ct_X9_wordOf_r68_r17_104 hD hQ ih l2 l3 l5 g0 h (jr_of rfl (by omega)) (jr_of rfl (by omega)) (jr_of rfl (by omega)) (by omega) z0 (by omega) J Sm)
          ·
            refine x_aloadn (x := 68) rfl rfl ?_
            refine z_getR (N := 6) (b := 69) 9 0 rfl f_9_11 rfl J rfl 8704 ⟨rfl, rfl⟩ rfl ?_
            refine x_iloadn (x := l3) rfl rfl ?_
            refine z_iald (N := 400) rfl J rfl sg_69_0_400_1_0_1 rfl (by omega) (fun v7 qv7 ev7 => ?_)
            refine x_iload (x := v2) rfl rfl ?_
            refine x_icne (tgt := 104) rfl rfl (ti_ne rfl rfl ⟨fun c8 => ?_, fun c8 => ?_⟩)
            ·
              exact jX.sub (jsb_c rfl (jsb_c rfl (jsb_c rfl (jsb_c rfl (jsb_c rfl jsb_n))))) (ct_X9_wordOf_r68_r17_104 hD hQ ih l2 l3 l5 g0 h (jr_of rfl (by omega)) (jr_of rfl (by omega)) (jr_of rfl (by omega)) (by omega) z0 (by omega) J Sm)
            ·
              refine x_iconst (v := 1) rfl ki_1 ?_
              refine x_goto (tgt := 105) rfl rfl ?_
              exact jX.sub (jsb_c rfl (jsb_c rfl (jsb_c rfl (jsb_c rfl (jsb_c rfl jsb_n))))) (ct_X9_wordOf_r68_r17_300105 hD hQ ih l2 l3 l5 g0 h (jr_of rfl (by omega)) (jr_of rfl (by omega)) (jr_of rfl (by omega)) (by omega) z0 (by omega) J Sm)
      ·
        refine x_iload (x := l4) rfl rfl ?_
        refine x_ifeq (tgt := 62) rfl rfl (ti_eq rfl jk_0 ⟨fun c9 => ?_, fun c9 => ?_⟩)
        ·
          exact jX.sub (jsb_c rfl (jsb_c rfl (jsb_c rfl (jsb_c rfl jsb_n)))) (ct_X9_wordOf_r68_r17_62 hD hQ ih l2 l5 g0 h (jr_of rfl (by omega)) (jr_of rfl (by omega)) z0 (by omega) J Sm)
        ·
          refine x_iloadn (x := l3) rfl rfl ?_
          refine x_aloadn (x := 68) rfl rfl ?_
          refine z_getI (N := 6) 9 4 rfl f_9_25 rfl J rfl sg_68_4_5_1_0_1 (fun v10 qv10 ev10 => ?_)
          refine x_icne (tgt := 62) rfl rfl (ti_ne rfl rfl ⟨fun c11 => ?_, fun c11 => ?_⟩)
          ·
            exact jX.sub (jsb_c rfl (jsb_c rfl (jsb_c rfl (jsb_c rfl jsb_n)))) (ct_X9_wordOf_r68_r17_62 hD hQ ih l2 l5 g0 h (jr_of rfl (by omega)) (jr_of rfl (by omega)) z0 (by omega) J Sm)
          ·
            refine x_iloadn (x := l2) rfl rfl ?_
            refine x_iret rfl rfl ?_
            exact hQ _ _ J Sm
set_option maxRecDepth 100000 in
set_option maxHeartbeats 4000000 in
theorem sf_X9_wordOf_r68_r17 {Dy : jH → Prop} {h : jH} {Q : Option Value → jH → Prop} (hD : jDk Dy) (J : jJ jSgX Dy h) (hQ : ∀ (v : Int32) hx9, jJ jSgX Dy hx9 → jSm fp_X9_wordOf_r68_r17 h hx9 → Q (some (.int v)) hx9) : jC m_X9_wordOf 4 0 0 [.ref 68, .ref 17] h Q := by
  refine jC.of rfl k_X9_wordOf rfl ?_
  have Sm := jSm_rf fp_X9_wordOf_r68_r17 h
  show jX m_X9_wordOf 4 0 0 0 [(0, .ref 68), (1, .ref 17)] [] _ 0 0 _
  refine x_aloadn (x := 68) rfl rfl ?_
  refine z_getI (N := 6) 9 5 rfl f_9_28 rfl J rfl sg_68_5_6_1_0_1 (fun v1 qv1 ev1 => ?_)
  refine x_iconst (v := 1) rfl ki_1 ?_
  refine x_iceq (tgt := 10) rfl rfl (ti_eq rfl jk_1 ⟨fun c2 => ?_, fun c2 => ?_⟩)
  ·
    refine x_iconst (v := 0) rfl ki_0 ?_
    refine x_istoren (lsx9 := [(2, .int 0), (0, .ref 68), (1, .ref 17)]) rfl rfl rfl ?_
    refine x_aloadn (x := 68) rfl rfl ?_
    refine z_getI (N := 6) 9 3 rfl f_9_22 rfl J rfl sg_68_3_4_1_0_1 (fun v3 qv3 ev3 => ?_)
    refine x_istoren (lsx9 := [(3, .int v3), (2, .int 0), (0, .ref 68), (1, .ref 17)]) rfl rfl rfl ?_
    refine x_iconst (v := 1) rfl ki_1 ?_
    refine x_istore (lsx9 := [(4, .int 1), (3, .int v3), (2, .int 0), (0, .ref 68), (1, .ref 17)]) rfl rfl rfl ?_
    refine x_iconst (v := 0) rfl ki_0 ?_
    refine x_istore (lsx9 := [(5, .int 0), (4, .int 1), (3, .int v3), (2, .int 0), (0, .ref 68), (1, .ref 17)]) rfl rfl rfl ?_
    exact jX.sub (jsb_c rfl (jsb_c rfl (jsb_c rfl (jsb_c rfl (jsb_c rfl (jsb_c rfl jsb_n)))))) (ct_X9_wordOf_r68_r17_23 hD hQ  4 0 v3 1 0 v3 h (by have := jk_0; omega) (jr_of rfl (by omega)) (jr_of jk_1 (by omega)) (jr_of jk_0 (by omega)) (jr_of rfl (by omega)) (by have := jk_0; omega) qv3 J Sm)
  ·
    refine x_iconst (v := (-1)) rfl ki_m1 ?_
    refine x_iret rfl rfl ?_
    exact hQ _ _ J Sm
def fp_X2_readTest_r95_c8 : jFp := [(68, 2, 3), (68, 3, 4), (68, 4, 5), (68, 5, 6), (95, 4, 5), (95, 5, 6), (97, 0, 1200)]
set_option maxRecDepth 100000 in
set_option maxHeartbeats 4000000 in
theorem ct_X2_readTest_r95_c8_77 {Dy : jH → Prop} {h0 : jH} {Q : Option Value → jH → Prop} {R4 : Int} (hD : jDk Dy) (hQ : ∀ (v : Int32) hx9, 0 ≤ v.toInt ∧ v.toInt ≤ 1 → jJ jSgX Dy hx9 → jSm fp_X2_readTest_r95_c8 h0 hx9 → ∀ u0 u1 : Int32, jiv hx9 68 5 = u0 → jiv hx9 68 3 = u1 → (u0.toInt ≠ 3 ∨ u1.toInt ≤ 399) → Q (some (.int v)) hx9) (k4 : ∀ (l2 : Int32) (l3 : Int32) (g0 : Int32) (g1 : Int32) (h : jH), 400 - l3.toInt < R4 → (-1) ≤ l2.toInt ∧ l2.toInt ≤ 1199 → 0 ≤ l3.toInt ∧ l3.toInt ≤ 400 → 0 ≤ g0.toInt ∧ g0.toInt ≤ 400 → 0 ≤ g1.toInt ∧ g1.toInt ≤ 3 → (g1.toInt ≠ 3 ∨ g0.toInt ≤ 399) → jiv h 68 3 = g0 → jiv h 68 5 = g1 → jJ jSgX Dy h → jSm fp_X2_readTest_r95_c8 h0 h → jX m_X2_readTest 8 0 0 4 [(0, .ref 95), (1, .int 8), (2, .int l2), (3, .int l3)] [] h 0 0 Q) : ∀ (l2 : Int32) (l3 : Int32) (g0 : Int32) (g1 : Int32) (h : jH), (-1) ≤ l2.toInt ∧ l2.toInt ≤ 1199 → 0 ≤ l3.toInt ∧ l3.toInt ≤ 399 → 0 ≤ g0.toInt ∧ g0.toInt ≤ 400 → 0 ≤ g1.toInt ∧ g1.toInt ≤ 3 → (g1.toInt ≠ 3 ∨ g0.toInt ≤ 399) → jiv h 68 3 = g0 → jiv h 68 5 = g1 → 400 - l3.toInt ≤ R4 → jJ jSgX Dy h → jSm fp_X2_readTest_r95_c8 h0 h → jX m_X2_readTest 8 0 0 77 [(0, .ref 95), (1, .int 8), (2, .int l2), (3, .int l3)] [] h 0 0 Q := by
  intro l2 l3 g0 g1 h y0 y1 y2 y3 y4 z0 z1 m4 J Sm
  refine x_aloadn (x := 95) rfl rfl ?_
  refine x_iloadn (x := l2) rfl rfl ?_
  refine x_inv (N := m_X2_land) (As := [.int l2]) (b := 95) (st := []) (dx9 := 1) (mc := 0) (ms := 0) (host := "") 2 rfl t_X2_land ⟨Or.inl q_2_124, i_X2_land.1, i_X2_land.2⟩ ⟨by decide, rfl⟩ (congrArg Prod.fst (J.1.1 95 (2, 6) rfl)) rfl (by decide) rfl rfl ⟨by decide, by decide⟩ (sf_X2_land_r95 (jr_of rfl (by omega)) hD J  (fun h J S1 => ?_))
  have Sm := jSm_tr rfl Sm S1
  show jX m_X2_readTest 8 0 0 82 [(0, .ref 95), (1, .int 8), (2, .int l2), (3, .int l3)] [] _ 0 0 _
  refine x_aloadn (x := 95) rfl rfl ?_
  refine z_getR (N := 6) (b := 68) 2 0 rfl f_2_30 rfl J rfl 12160 ⟨rfl, rfl⟩ rfl ?_
  refine x_ldcS (jstr.getD 12 jstr_0) rfl (List.mem_of_getElem? (i := 12) rfl) rfl rfl ?_
  show jX m_X2_readTest 8 0 0 88 [(0, .ref 95), (1, .int 8), (2, .int l2), (3, .int l3)] [.ref 17, .ref 68] _ 0 0 _
  refine x_inv (N := m_X9_wordOf) (As := [.ref 17]) (b := 68) (st := []) (dx9 := 4) (mc := 0) (ms := 0) (host := "") 9 rfl t_X9_wordOf ⟨Or.inl q_2_67, i_X9_wordOf.1, i_X9_wordOf.2⟩ ⟨by decide, rfl⟩ (congrArg Prod.fst (J.1.1 68 (9, 6) rfl)) rfl (by decide) rfl rfl ⟨by decide, by decide⟩ (sf_X9_wordOf_r68_r17  hD J  (fun v3 h J S2 => ?_))
  have ev3 := jfull v3
  have Sm := jSm_tr rfl Sm S2
  show jX m_X2_readTest 8 0 0 91 [(0, .ref 95), (1, .int 8), (2, .int l2), (3, .int l3)] [.int v3] _ 0 0 _
  refine x_ifeq (tgt := 96) rfl rfl (ti_eq rfl jk_0 ⟨fun c4 => ?_, fun c4 => ?_⟩)
  ·
    refine x_aloadn (x := 95) rfl rfl ?_
    refine x_bipush (v := 11) rfl kb_11 ?_
    refine x_inv (N := m_X2_leap) (As := [.int 11]) (b := 95) (st := []) (dx9 := 2) (mc := 0) (ms := 0) (host := "") 2 rfl t_X2_leap ⟨Or.inl q_2_129, i_X2_leap.1, i_X2_leap.2⟩ ⟨by decide, rfl⟩ (congrArg Prod.fst (J.1.1 95 (2, 6) rfl)) rfl (by decide) rfl rfl ⟨by decide, by decide⟩ (sf_X2_leap_r95 (jr_of jk_11 (by omega)) hD J  (fun v6 h ev6 J S5 => ?_))
    have Sm := jSm_tr rfl Sm S5
    show jX m_X2_readTest 8 0 0 102 [(0, .ref 95), (1, .int 8), (2, .int l2), (3, .int l3)] [.int v6] _ 0 0 _
    refine x_istoren (lsx9 := [(2, .int v6), (0, .ref 95), (1, .int 8), (3, .int l3)]) rfl rfl rfl ?_
    refine x_aloadn (x := 95) rfl rfl ?_
    refine z_getR (N := 6) (b := 68) 2 0 rfl f_2_30 rfl J rfl 12160 ⟨rfl, rfl⟩ rfl ?_
    refine x_inv (N := m_X9_step) (As := []) (b := 68) (st := []) (dx9 := 2) (mc := 0) (ms := 0) (host := "") 9 rfl t_X9_step ⟨Or.inl q_2_62, i_X9_step.1, i_X9_step.2⟩ ⟨by decide, rfl⟩ (congrArg Prod.fst (J.1.1 68 (9, 6) rfl)) rfl (by decide) rfl rfl ⟨by decide, by decide⟩ (sf_X9_step_r68  hD J (jmc S5 rfl (jmc S2 rfl (jmc S1 rfl z1))) (jmc S5 rfl (jmc S2 rfl (jmc S1 rfl z0))) (by omega)  (fun h J S7 u8 u9 qu8 qu9 ru8 => ?_))
    have Sm := jSm_tr rfl Sm S7
    have eu8 := (show 0 ≤ u8.toInt ∧ u8.toInt ≤ 3 from qu8 ▸ jrg_f J sg_68_5_6_1_0_1)
    have eu9 := (show 0 ≤ u9.toInt ∧ u9.toInt ≤ 400 from qu9 ▸ jrg_f J sg_68_3_4_1_0_1)
    show jX m_X2_readTest 8 0 0 110 [(2, .int v6), (0, .ref 95), (1, .int 8), (3, .int l3)] [] _ 0 0 _
    refine z_iinc (x := l3) (lsx9 := fun v10 => [(3, .int v10), (2, .int v6), (0, .ref 95), (1, .int 8)]) rfl rfl rfl jko_1 (by omega) rfl (fun _ => rfl) (fun v10 ev10 => ?_)
    refine x_goto (tgt := 4) rfl rfl ?_
    exact jX.sub (jsb_c rfl (jsb_c rfl (jsb_c rfl (jsb_c rfl jsb_n)))) (k4 v6 v10 u9 u8 h (by omega) (jr_of rfl (by omega)) (jr_of rfl (by omega)) (jr_of rfl (by omega)) (jr_of rfl (by omega)) (by omega) qu9 qu8 J Sm)
  ·
    refine x_iconst (v := 1) rfl ki_1 ?_
    refine x_zret rfl rfl (by decide) ?_
    exact hQ _ _ (jr_of jk_1 (by omega)) J Sm _ _ (jmc S2 rfl (jmc S1 rfl z1)) (jmc S2 rfl (jmc S1 rfl z0)) (by omega)
set_option maxRecDepth 100000 in
set_option maxHeartbeats 4000000 in
theorem ct_X2_readTest_r95_c8_17 {Dy : jH → Prop} {h0 : jH} {Q : Option Value → jH → Prop} {R4 : Int} (hD : jDk Dy) (hQ : ∀ (v : Int32) hx9, 0 ≤ v.toInt ∧ v.toInt ≤ 1 → jJ jSgX Dy hx9 → jSm fp_X2_readTest_r95_c8 h0 hx9 → ∀ u0 u1 : Int32, jiv hx9 68 5 = u0 → jiv hx9 68 3 = u1 → (u0.toInt ≠ 3 ∨ u1.toInt ≤ 399) → Q (some (.int v)) hx9) (k4 : ∀ (l2 : Int32) (l3 : Int32) (g0 : Int32) (g1 : Int32) (h : jH), 400 - l3.toInt < R4 → (-1) ≤ l2.toInt ∧ l2.toInt ≤ 1199 → 0 ≤ l3.toInt ∧ l3.toInt ≤ 400 → 0 ≤ g0.toInt ∧ g0.toInt ≤ 400 → 0 ≤ g1.toInt ∧ g1.toInt ≤ 3 → (g1.toInt ≠ 3 ∨ g0.toInt ≤ 399) → jiv h 68 3 = g0 → jiv h 68 5 = g1 → jJ jSgX Dy h → jSm fp_X2_readTest_r95_c8 h0 h → jX m_X2_readTest 8 0 0 4 [(0, .ref 95), (1, .int 8), (2, .int l2), (3, .int l3)] [] h 0 0 Q) : ∀ r : Nat, ∀ (l2 : Int32) (l3 : Int32) (l4 : Int32) (l5 : Int32) (g0 : Int32) (g1 : Int32) (h : jH), 400 - l5.toInt < (r : Int) → (-1) ≤ l2.toInt ∧ l2.toInt ≤ 1199 → 0 ≤ l3.toInt ∧ l3.toInt ≤ 399 → (-1) ≤ l4.toInt ∧ l4.toInt ≤ 1199 → 0 ≤ l5.toInt ∧ l5.toInt ≤ 400 → 0 ≤ g0.toInt ∧ g0.toInt ≤ 400 → 0 ≤ g1.toInt ∧ g1.toInt ≤ 3 → (g1.toInt ≠ 3 ∨ g0.toInt ≤ 399) → jiv h 68 3 = g0 → jiv h 68 5 = g1 → 400 - l3.toInt ≤ R4 → jJ jSgX Dy h → jSm fp_X2_readTest_r95_c8 h0 h → jX m_X2_readTest 8 0 0 17 [(0, .ref 95), (1, .int 8), (2, .int l2), (3, .int l3), (4, .int l4), (5, .int l5)] [] h 0 0 Q := by
  intro r
  induction r with
  | zero =>
    intro l2 l3 l4 l5 g0 g1 h hm y0 y1 y2 y3 y4 y5 y6 z0 z1 m4 J Sm
    exfalso
    omega
  | succ r ih =>
    intro l2 l3 l4 l5 g0 g1 h hm y0 y1 y2 y3 y4 y5 y6 z0 z1 m4 J Sm
    refine x_iload (x := l5) rfl rfl ?_
    refine x_sipush (v := 400) rfl ks_400 ?_
    refine x_icge (tgt := 77) rfl rfl (ti_ge rfl jk_400 ⟨fun c1 => ?_, fun c1 => ?_⟩)
    ·
      exact jX.sub (jsb_c rfl (jsb_c rfl (jsb_c rfl (jsb_c rfl jsb_n)))) (ct_X2_readTest_r95_c8_77 hD hQ k4 l2 l3 g0 g1 h (jr_of rfl (by omega)) (jr_of rfl (by omega)) (jr_of rfl (by omega)) (jr_of rfl (by omega)) (by omega) z0 z1 (by omega) J Sm)
    ·
      refine x_aloadn (x := 95) rfl rfl ?_
      refine x_iloadn (x := 8) rfl rfl ?_
      refine x_inv (N := m_X2_readPlain) (As := [.int 8]) (b := 95) (st := []) (dx9 := 7) (mc := 0) (ms := 0) (host := "") 2 rfl t_X2_readPlain ⟨Or.inl q_2_121, i_X2_readPlain.1, i_X2_readPlain.2⟩ ⟨by decide, rfl⟩ (congrArg Prod.fst (J.1.1 95 (2, 6) rfl)) rfl (by decide) rfl rfl ⟨by decide, by decide⟩ (sf_X2_readPlain_r95_c8  hD J z1 z0 (by omega)  (fun v5 h ev5 J S2 u3 u4 qu3 qu4 ru3 => ?_))
      have Sm := jSm_tr rfl Sm S2
      have eu3 := (show 0 ≤ u3.toInt ∧ u3.toInt ≤ 3 from qu3 ▸ jrg_f J sg_68_5_6_1_0_1)
      have eu4 := (show 0 ≤ u4.toInt ∧ u4.toInt ≤ 400 from qu4 ▸ jrg_f J sg_68_3_4_1_0_1)
      show jX m_X2_readTest 8 0 0 30 [(0, .ref 95), (1, .int 8), (2, .int l2), (3, .int l3), (4, .int l4), (5, .int l5)] [.int v5] _ 0 0 _
      refine x_ifne (tgt := 35) rfl rfl (ti_ne rfl jk_0 ⟨fun c6 => ?_, fun c6 => ?_⟩)
      ·
        refine x_aloadn (x := 95) rfl rfl ?_
        refine x_iload (x := l4) rfl rfl ?_
        refine x_inv (N := m_X2_land) (As := [.int l4]) (b := 95) (st := []) (dx9 := 1) (mc := 0) (ms := 0) (host := "") 2 rfl t_X2_land ⟨Or.inl q_2_124, i_X2_land.1, i_X2_land.2⟩ ⟨by decide, rfl⟩ (congrArg Prod.fst (J.1.1 95 (2, 6) rfl)) rfl (by decide) rfl rfl ⟨by decide, by decide⟩ (sf_X2_land_r95 (jr_of rfl (by omega)) hD J  (fun h J S7 => ?_))
        have Sm := jSm_tr rfl Sm S7
        show jX m_X2_readTest 8 0 0 41 [(0, .ref 95), (1, .int 8), (2, .int l2), (3, .int l3), (4, .int l4), (5, .int l5)] [] _ 0 0 _
        refine x_aloadn (x := 95) rfl rfl ?_
        refine z_getR (N := 6) (b := 68) 2 0 rfl f_2_30 rfl J rfl 12160 ⟨rfl, rfl⟩ rfl ?_
        refine x_ldcS (jstr.getD 11 jstr_0) rfl (List.mem_of_getElem? (i := 11) rfl) rfl rfl ?_
        show jX m_X2_readTest 8 0 0 47 [(0, .ref 95), (1, .int 8), (2, .int l2), (3, .int l3), (4, .int l4), (5, .int l5)] [.ref 16, .ref 68] _ 0 0 _
        refine x_inv (N := m_X9_wordOf) (As := [.ref 16]) (b := 68) (st := []) (dx9 := 4) (mc := 0) (ms := 0) (host := "") 9 rfl t_X9_wordOf ⟨Or.inl q_2_67, i_X9_wordOf.1, i_X9_wordOf.2⟩ ⟨by decide, rfl⟩ (congrArg Prod.fst (J.1.1 68 (9, 6) rfl)) rfl (by decide) rfl rfl ⟨by decide, by decide⟩ (sf_X9_wordOf_r68_r16  hD J  (fun v9 h J S8 => ?_))
        have ev9 := jfull v9
        have Sm := jSm_tr rfl Sm S8
        show jX m_X2_readTest 8 0 0 50 [(0, .ref 95), (1, .int 8), (2, .int l2), (3, .int l3), (4, .int l4), (5, .int l5)] [.int v9] _ 0 0 _
        refine x_ifeq (tgt := 56) rfl rfl (ti_eq rfl jk_0 ⟨fun c10 => ?_, fun c10 => ?_⟩)
        ·
          refine x_aloadn (x := 95) rfl rfl ?_
          refine x_bipush (v := 12) rfl kb_12 ?_
          refine x_inv (N := m_X2_leap) (As := [.int 12]) (b := 95) (st := []) (dx9 := 2) (mc := 0) (ms := 0) (host := "") 2 rfl t_X2_leap ⟨Or.inl q_2_129, i_X2_leap.1, i_X2_leap.2⟩ ⟨by decide, rfl⟩ (congrArg Prod.fst (J.1.1 95 (2, 6) rfl)) rfl (by decide) rfl rfl ⟨by decide, by decide⟩ (sf_X2_leap_r95 (jr_of jk_12 (by omega)) hD J  (fun v12 h ev12 J S11 => ?_))
          have Sm := jSm_tr rfl Sm S11
          show jX m_X2_readTest 8 0 0 62 [(0, .ref 95), (1, .int 8), (2, .int l2), (3, .int l3), (4, .int l4), (5, .int l5)] [.int v12] _ 0 0 _
          refine x_istore (lsx9 := [(4, .int v12), (0, .ref 95), (1, .int 8), (2, .int l2), (3, .int l3), (5, .int l5)]) rfl rfl rfl ?_
          refine x_aloadn (x := 95) rfl rfl ?_
          refine z_getR (N := 6) (b := 68) 2 0 rfl f_2_30 rfl J rfl 12160 ⟨rfl, rfl⟩ rfl ?_
          refine x_inv (N := m_X9_step) (As := []) (b := 68) (st := []) (dx9 := 2) (mc := 0) (ms := 0) (host := "") 9 rfl t_X9_step ⟨Or.inl q_2_62, i_X9_step.1, i_X9_step.2⟩ ⟨by decide, rfl⟩ (congrArg Prod.fst (J.1.1 68 (9, 6) rfl)) rfl (by decide) rfl rfl ⟨by decide, by decide⟩ (sf_X9_step_r68  hD J (jmc S11 rfl (jmc S8 rfl (jmc S7 rfl qu3))) (jmc S11 rfl (jmc S8 rfl (jmc S7 rfl qu4))) (by omega)  (fun h J S13 u14 u15 qu14 qu15 ru14 => ?_))
          have Sm := jSm_tr rfl Sm S13
          have eu14 := (show 0 ≤ u14.toInt ∧ u14.toInt ≤ 3 from qu14 ▸ jrg_f J sg_68_5_6_1_0_1)
          have eu15 := (show 0 ≤ u15.toInt ∧ u15.toInt ≤ 400 from qu15 ▸ jrg_f J sg_68_3_4_1_0_1)
          show jX m_X2_readTest 8 0 0 71 [(4, .int v12), (0, .ref 95), (1, .int 8), (2, .int l2), (3, .int l3), (5, .int l5)] [] _ 0 0 _
          refine z_iinc (x := l5) (lsx9 := fun v16 => [(5, .int v16), (4, .int v12), (0, .ref 95), (1, .int 8), (2, .int l2), (3, .int l3)]) rfl rfl rfl jko_1 (by omega) rfl (fun _ => rfl) (fun v16 ev16 => ?_)
          refine x_goto (tgt := 17) rfl rfl ?_
          exact jX.sub (jsb_c rfl (jsb_c rfl (jsb_c rfl (jsb_c rfl (jsb_c rfl (jsb_c rfl jsb_n)))))) (ih l2 l3 v12 v16 u15 u14 h (by omega) (jr_of rfl (by omega)) (jr_of rfl (by omega)) (jr_of rfl (by omega)) (jr_of rfl (by omega)) (jr_of rfl (by omega)) (jr_of rfl (by omega)) (by omega) qu15 qu14 (by omega) J Sm)
        ·
          refine x_goto (tgt := 77) rfl rfl ?_
          exact jX.sub (jsb_c rfl (jsb_c rfl (jsb_c rfl (jsb_c rfl jsb_n)))) (ct_X2_readTest_r95_c8_77 hD hQ k4 l2 l3 u4 u3 h (jr_of rfl (by omega)) (jr_of rfl (by omega)) (jr_of rfl (by omega)) (jr_of rfl (by omega)) (by omega) (jmc S8 rfl (jmc S7 rfl qu4)) (jmc S8 rfl (jmc S7 rfl qu3)) (by omega) J Sm)
      ·
        refine x_iconst (v := 0) rfl ki_0 ?_
        refine x_zret rfl rfl (by decide) ?_
        exact hQ _ _ (jr_of jk_0 (by omega)) J Sm _ _ qu3 qu4 (by omega)
set_option maxRecDepth 100000 in
set_option maxHeartbeats 4000000 in
theorem ct_X2_readTest_r95_c8_4 {Dy : jH → Prop} {h0 : jH} {Q : Option Value → jH → Prop} (hD : jDk Dy) (hQ : ∀ (v : Int32) hx9, 0 ≤ v.toInt ∧ v.toInt ≤ 1 → jJ jSgX Dy hx9 → jSm fp_X2_readTest_r95_c8 h0 hx9 → ∀ u0 u1 : Int32, jiv hx9 68 5 = u0 → jiv hx9 68 3 = u1 → (u0.toInt ≠ 3 ∨ u1.toInt ≤ 399) → Q (some (.int v)) hx9) : ∀ r : Nat, ∀ (l2 : Int32) (l3 : Int32) (g0 : Int32) (g1 : Int32) (h : jH), 400 - l3.toInt < (r : Int) → (-1) ≤ l2.toInt ∧ l2.toInt ≤ 1199 → 0 ≤ l3.toInt ∧ l3.toInt ≤ 400 → 0 ≤ g0.toInt ∧ g0.toInt ≤ 400 → 0 ≤ g1.toInt ∧ g1.toInt ≤ 3 → (g1.toInt ≠ 3 ∨ g0.toInt ≤ 399) → jiv h 68 3 = g0 → jiv h 68 5 = g1 → jJ jSgX Dy h → jSm fp_X2_readTest_r95_c8 h0 h → jX m_X2_readTest 8 0 0 4 [(0, .ref 95), (1, .int 8), (2, .int l2), (3, .int l3)] [] h 0 0 Q := by
  intro r
  induction r with
  | zero =>
    intro l2 l3 g0 g1 h hm y0 y1 y2 y3 y4 z0 z1  J Sm
    exfalso
    omega
  | succ r ih =>
    intro l2 l3 g0 g1 h hm y0 y1 y2 y3 y4 z0 z1  J Sm
    refine x_iloadn (x := l3) rfl rfl ?_
    refine x_sipush (v := 400) rfl ks_400 ?_
    refine x_icge (tgt := 116) rfl rfl (ti_ge rfl jk_400 ⟨fun c1 => ?_, fun c1 => ?_⟩)
    ·
      refine x_aloadn (x := 95) rfl rfl ?_
      refine z_getR (N := 6) (b := 68) 2 0 rfl f_2_30 rfl J rfl 12160 ⟨rfl, rfl⟩ rfl ?_
      refine x_inv (N := m_X9_blame) (As := []) (b := 68) (st := []) (dx9 := 7) (mc := 0) (ms := 0) (host := "") 9 rfl t_X9_blame ⟨Or.inl q_2_59, i_X9_blame.1, i_X9_blame.2⟩ ⟨by decide, rfl⟩ (congrArg Prod.fst (J.1.1 68 (9, 6) rfl)) rfl (by decide) rfl rfl ⟨by decide, by decide⟩ (jC.of rfl k_X9_blame rfl ?_)
      show jX m_X9_blame 7 0 0 0 [(0, .ref 68)] [] _ 0 0 _
      refine x_aloadn (x := 68) rfl rfl ?_
      refine x_aloadn (x := 68) rfl rfl ?_
      refine z_getM (N := 6) (v := g0) 9 3 rfl f_9_22 rfl J rfl z0 ?_
      refine z_putI (N := 6) (w := g0.toInt) 9 2 rfl f_9_19 rfl (jfin_no TX9 RX9 6 rfl rfl) hD J Sm rfl rfl rfl (pw_68_2 (by omega)) rfl (fun h w2 J Sm => ?_)
      refine x_iconst (v := 0) rfl ki_0 ?_
      refine x_zret rfl rfl (by decide) ?_
      show jX m_X2_readTest 8 0 0 123 [(0, .ref 95), (1, .int 8), (2, .int l2), (3, .int l3)] [.int 0] _ 0 0 _
      refine x_zret rfl rfl (by decide) ?_
      exact hQ _ _ (jr_of jk_0 (by omega)) J Sm _ _ (jmo w2 rfl z1) (jmo w2 rfl z0) (by omega)
    ·
      refine x_iconst (v := (-1)) rfl ki_m1 ?_
      refine x_istore (lsx9 := [(4, .int (-1)), (0, .ref 95), (1, .int 8), (2, .int l2), (3, .int l3)]) rfl rfl rfl ?_
      refine x_iconst (v := 0) rfl ki_0 ?_
      refine x_istore (lsx9 := [(5, .int 0), (4, .int (-1)), (0, .ref 95), (1, .int 8), (2, .int l2), (3, .int l3)]) rfl rfl rfl ?_
      exact jX.sub (jsb_c rfl (jsb_c rfl (jsb_c rfl (jsb_c rfl (jsb_c rfl (jsb_c rfl jsb_n)))))) (ct_X2_readTest_r95_c8_17 hD hQ ih 401 l2 l3 (-1) 0 g0 g1 h (by have := jk_0; omega) (jr_of rfl (by omega)) (jr_of rfl (by omega)) (jr_of jk_m1 (by omega)) (jr_of jk_0 (by omega)) (jr_of rfl (by omega)) (jr_of rfl (by omega)) (by omega) z0 z1 (by omega) J Sm)
set_option maxRecDepth 100000 in
set_option maxHeartbeats 4000000 in
theorem sf_X2_readTest_r95_c8 {Dy : jH → Prop} {h : jH} {Q : Option Value → jH → Prop} (hD : jDk Dy) (J : jJ jSgX Dy h) {p0 p1 : Int32} (zp0 : jiv h 68 5 = p0) (zp1 : jiv h 68 3 = p1) (rl_p0 : (p0.toInt ≠ 3 ∨ p1.toInt ≤ 399)) (hQ : ∀ (v : Int32) hx9, 0 ≤ v.toInt ∧ v.toInt ≤ 1 → jJ jSgX Dy hx9 → jSm fp_X2_readTest_r95_c8 h hx9 → ∀ u0 u1 : Int32, jiv hx9 68 5 = u0 → jiv hx9 68 3 = u1 → (u0.toInt ≠ 3 ∨ u1.toInt ≤ 399) → Q (some (.int v)) hx9) : jC m_X2_readTest 8 0 0 [.ref 95, .int 8] h Q := by
  refine jC.of rfl k_X2_readTest rfl ?_
  have Sm := jSm_rf fp_X2_readTest_r95_c8 h
  have ep0 := (show 0 ≤ p0.toInt ∧ p0.toInt ≤ 3 from zp0 ▸ jrg_f J sg_68_5_6_1_0_1)
  have ep1 := (show 0 ≤ p1.toInt ∧ p1.toInt ≤ 400 from zp1 ▸ jrg_f J sg_68_3_4_1_0_1)
  show jX m_X2_readTest 8 0 0 0 [(0, .ref 95), (1, .int 8)] [] _ 0 0 _
  refine x_iconst (v := (-1)) rfl ki_m1 ?_
  refine x_istoren (lsx9 := [(2, .int (-1)), (0, .ref 95), (1, .int 8)]) rfl rfl rfl ?_
  refine x_iconst (v := 0) rfl ki_0 ?_
  refine x_istoren (lsx9 := [(3, .int 0), (2, .int (-1)), (0, .ref 95), (1, .int 8)]) rfl rfl rfl ?_
  exact jX.sub (jsb_c rfl (jsb_c rfl (jsb_c rfl (jsb_c rfl jsb_n)))) (ct_X2_readTest_r95_c8_4 hD hQ  401 (-1) 0 p1 p0 h (by have := jk_0; omega) (jr_of jk_m1 (by omega)) (jr_of jk_0 (by omega)) (jr_of rfl (by omega)) (jr_of rfl (by omega)) (by omega) zp1 zp0 J Sm)
def fp_X2_readPlain_r95_c7 : jFp := [(68, 2, 3), (68, 3, 4), (68, 4, 5), (68, 5, 6), (95, 4, 5), (95, 5, 6), (97, 0, 1200)]
set_option maxRecDepth 100000 in
set_option maxHeartbeats 4000000 in
theorem ct_X2_readPlain_r95_c7_239 {Dy : jH → Prop} {h0 : jH} {Q : Option Value → jH → Prop} (hD : jDk Dy) (hQ : ∀ (v : Int32) hx9, 0 ≤ v.toInt ∧ v.toInt ≤ 1 → jJ jSgX Dy hx9 → jSm fp_X2_readPlain_r95_c7 h0 hx9 → ∀ u0 u1 : Int32, jiv hx9 68 5 = u0 → jiv hx9 68 3 = u1 → (u0.toInt ≠ 3 ∨ u1.toInt ≤ 399) → Q (some (.int v)) hx9) : ∀ (g0 : Int32) (g1 : Int32) (h : jH), 0 ≤ g0.toInt ∧ g0.toInt ≤ 400 → 0 ≤ g1.toInt ∧ g1.toInt ≤ 3 → (g1.toInt ≠ 3 ∨ g0.toInt ≤ 399) → jiv h 68 3 = g0 → jiv h 68 5 = g1 → jJ jSgX Dy h → jSm fp_X2_readPlain_r95_c7 h0 h → jX m_X2_readPlain 9 0 0 239 [] [] h 0 0 Q := by
  intro g0 g1 h y0 y1 y2 z0 z1  J Sm
  refine x_iconst (v := 1) rfl ki_1 ?_
  refine x_zret rfl rfl (by decide) ?_
  exact hQ _ _ (jr_of jk_1 (by omega)) J Sm _ _ z1 z0 (by omega)
set_option maxRecDepth 100000 in
set_option maxHeartbeats 4000000 in
theorem ct_X2_readPlain_r95_c7_229 {Dy : jH → Prop} {h0 : jH} {Q : Option Value → jH → Prop} (hD : jDk Dy) (hQ : ∀ (v : Int32) hx9, 0 ≤ v.toInt ∧ v.toInt ≤ 1 → jJ jSgX Dy hx9 → jSm fp_X2_readPlain_r95_c7 h0 hx9 → ∀ u0 u1 : Int32, jiv hx9 68 5 = u0 → jiv hx9 68 3 = u1 → (u0.toInt ≠ 3 ∨ u1.toInt ≤ 399) → Q (some (.int v)) hx9) : ∀ (l2 : Int32) (g0 : Int32) (g1 : Int32) (h : jH), 0 ≤ l2.toInt ∧ l2.toInt ≤ 1 → 0 ≤ g0.toInt ∧ g0.toInt ≤ 400 → 0 ≤ g1.toInt ∧ g1.toInt ≤ 3 → (g1.toInt ≠ 3 ∨ g0.toInt ≤ 399) → jiv h 68 3 = g0 → jiv h 68 5 = g1 → jJ jSgX Dy h → jSm fp_X2_readPlain_r95_c7 h0 h → jX m_X2_readPlain 9 0 0 229 [(0, .ref 95), (2, .int l2)] [] h 0 0 Q := by
  intro l2 g0 g1 h y0 y1 y2 y3 z0 z1  J Sm
  refine x_iloadn (x := l2) rfl rfl ?_
  refine x_ifeq (tgt := 239) rfl rfl (ti_eq rfl jk_0 ⟨fun c1 => ?_, fun c1 => ?_⟩)
  ·
    exact jX.sub jsb_n (ct_X2_readPlain_r95_c7_239 hD hQ  g0 g1 h (jr_of rfl (by omega)) (jr_of rfl (by omega)) (by omega) z0 z1 J Sm)
  ·
    refine x_aloadn (x := 95) rfl rfl ?_
    refine x_bipush (v := 10) rfl kb_10 ?_
    refine x_inv (N := m_X2_emit) (As := [.int 10]) (b := 95) (st := []) (dx9 := 1) (mc := 0) (ms := 0) (host := "") 2 rfl t_X2_emit ⟨Or.inl q_2_89, i_X2_emit.1, i_X2_emit.2⟩ ⟨by decide, rfl⟩ (congrArg Prod.fst (J.1.1 95 (2, 6) rfl)) rfl (by decide) rfl rfl ⟨by decide, by decide⟩ (sf_X2_emit_r95  hD J  (fun h J S2 => ?_))
    have Sm := jSm_tr rfl Sm S2
    show jX m_X2_readPlain 9 0 0 239 [(0, .ref 95), (2, .int l2)] [] _ 0 0 _
    exact jX.sub jsb_n (ct_X2_readPlain_r95_c7_239 hD hQ  g0 g1 h (jr_of rfl (by omega)) (jr_of rfl (by omega)) (by omega) (jmc S2 rfl z0) (jmc S2 rfl z1) J Sm)
set_option maxRecDepth 100000 in
set_option maxHeartbeats 4000000 in
theorem ct_X2_readPlain_r95_c7_100190 {Dy : jH → Prop} {h0 : jH} {Q : Option Value → jH → Prop} (hD : jDk Dy) (hQ : ∀ (v : Int32) hx9, 0 ≤ v.toInt ∧ v.toInt ≤ 1 → jJ jSgX Dy hx9 → jSm fp_X2_readPlain_r95_c7 h0 hx9 → ∀ u0 u1 : Int32, jiv hx9 68 5 = u0 → jiv hx9 68 3 = u1 → (u0.toInt ≠ 3 ∨ u1.toInt ≤ 399) → Q (some (.int v)) hx9) : ∀ (l2 : Int32) (g0 : Int32) (g1 : Int32) (h : jH), 0 ≤ l2.toInt ∧ l2.toInt ≤ 1 → 0 ≤ g0.toInt ∧ g0.toInt ≤ 400 → 0 ≤ g1.toInt ∧ g1.toInt ≤ 3 → (g1.toInt ≠ 3 ∨ g0.toInt ≤ 399) → jiv h 68 3 = g0 → jiv h 68 5 = g1 → jJ jSgX Dy h → jSm fp_X2_readPlain_r95_c7 h0 h → jX m_X2_readPlain 9 0 0 190 [(0, .ref 95), (1, .int 7), (2, .int l2)] [.int (-1)] h 0 0 Q := by
  intro l2 g0 g1 h y0 y1 y2 y3 z0 z1  J Sm
  refine x_istore (lsx9 := [(4, .int (-1)), (0, .ref 95), (1, .int 7), (2, .int l2)]) rfl rfl rfl ?_
  refine x_iload (x := (-1)) rfl rfl ?_
  refine x_iconst (v := (-1)) rfl ki_m1 ?_
  refine x_icne (tgt := 206) rfl rfl (ti_ne jk_m1 jk_m1 (bn_f (by omega) ?_))
  refine x_aloadn (x := 95) rfl rfl ?_
  refine z_getR (N := 6) (b := 68) 2 0 rfl f_2_30 rfl J rfl 12160 ⟨rfl, rfl⟩ rfl ?_
  refine x_inv (N := m_X9_blame) (As := []) (b := 68) (st := []) (dx9 := 8) (mc := 0) (ms := 0) (host := "") 9 rfl t_X9_blame ⟨Or.inl q_2_59, i_X9_blame.1, i_X9_blame.2⟩ ⟨by decide, rfl⟩ (congrArg Prod.fst (J.1.1 68 (9, 6) rfl)) rfl (by decide) rfl rfl ⟨by decide, by decide⟩ (jC.of rfl k_X9_blame rfl ?_)
  show jX m_X9_blame 8 0 0 0 [(0, .ref 68)] [] _ 0 0 _
  refine x_aloadn (x := 68) rfl rfl ?_
  refine x_aloadn (x := 68) rfl rfl ?_
  refine z_getM (N := 6) (v := g0) 9 3 rfl f_9_22 rfl J rfl z0 ?_
  refine z_putI (N := 6) (w := g0.toInt) 9 2 rfl f_9_19 rfl (jfin_no TX9 RX9 6 rfl rfl) hD J Sm rfl rfl rfl (pw_68_2 (by omega)) rfl (fun h w1 J Sm => ?_)
  refine x_iconst (v := 0) rfl ki_0 ?_
  refine x_zret rfl rfl (by decide) ?_
  show jX m_X2_readPlain 9 0 0 205 [(4, .int (-1)), (0, .ref 95), (1, .int 7), (2, .int l2)] [.int 0] _ 0 0 _
  refine x_zret rfl rfl (by decide) ?_
  exact hQ _ _ (jr_of jk_0 (by omega)) J Sm _ _ (jmo w1 rfl z1) (jmo w1 rfl z0) (by omega)
set_option maxRecDepth 100000 in
set_option maxHeartbeats 4000000 in
theorem ct_X2_readPlain_r95_c7_190 {Dy : jH → Prop} {h0 : jH} {Q : Option Value → jH → Prop} (hD : jDk Dy) (hQ : ∀ (v : Int32) hx9, 0 ≤ v.toInt ∧ v.toInt ≤ 1 → jJ jSgX Dy hx9 → jSm fp_X2_readPlain_r95_c7 h0 hx9 → ∀ u0 u1 : Int32, jiv hx9 68 5 = u0 → jiv hx9 68 3 = u1 → (u0.toInt ≠ 3 ∨ u1.toInt ≤ 399) → Q (some (.int v)) hx9) : ∀ (l2 : Int32) (g0 : Int32) (g1 : Int32) (h : jH), 0 ≤ l2.toInt ∧ l2.toInt ≤ 1 → 0 ≤ g0.toInt ∧ g0.toInt ≤ 400 → 0 ≤ g1.toInt ∧ g1.toInt ≤ 3 → (g1.toInt ≠ 3 ∨ g0.toInt ≤ 399) → jiv h 68 3 = g0 → jiv h 68 5 = g1 → jJ jSgX Dy h → jSm fp_X2_readPlain_r95_c7 h0 h → jX m_X2_readPlain 9 0 0 190 [(0, .ref 95), (1, .int 7), (2, .int l2)] [.int 9] h 0 0 Q := by
  intro l2 g0 g1 h y0 y1 y2 y3 z0 z1  J Sm
  refine x_istore (lsx9 := [(4, .int 9), (0, .ref 95), (1, .int 7), (2, .int l2)]) rfl rfl rfl ?_
  refine x_iload (x := 9) rfl rfl ?_
  refine x_iconst (v := (-1)) rfl ki_m1 ?_
  refine x_icne (tgt := 206) rfl rfl (ti_ne jk_9 jk_m1 (bn_t (by omega) ?_))
  refine x_aloadn (x := 95) rfl rfl ?_
  refine z_getR (N := 6) (b := 68) 2 0 rfl f_2_30 rfl J rfl 12160 ⟨rfl, rfl⟩ rfl ?_
  refine x_inv (N := m_X9_step) (As := []) (b := 68) (st := []) (dx9 := 2) (mc := 0) (ms := 0) (host := "") 9 rfl t_X9_step ⟨Or.inl q_2_62, i_X9_step.1, i_X9_step.2⟩ ⟨by decide, rfl⟩ (congrArg Prod.fst (J.1.1 68 (9, 6) rfl)) rfl (by decide) rfl rfl ⟨by decide, by decide⟩ (sf_X9_step_r68  hD J z1 z0 (by omega)  (fun h J S1 u2 u3 qu2 qu3 ru2 => ?_))
  have Sm := jSm_tr rfl Sm S1
  have eu2 := (show 0 ≤ u2.toInt ∧ u2.toInt ≤ 3 from qu2 ▸ jrg_f J sg_68_5_6_1_0_1)
  have eu3 := (show 0 ≤ u3.toInt ∧ u3.toInt ≤ 400 from qu3 ▸ jrg_f J sg_68_3_4_1_0_1)
  show jX m_X2_readPlain 9 0 0 213 [(4, .int 9), (0, .ref 95), (1, .int 7), (2, .int l2)] [] _ 0 0 _
  refine x_aloadn (x := 95) rfl rfl ?_
  refine x_iloadn (x := 7) rfl rfl ?_
  refine x_inv (N := m_X2_readSum) (As := [.int 7]) (b := 95) (st := []) (dx9 := 8) (mc := 0) (ms := 0) (host := "") 2 rfl t_X2_readSum ⟨Or.inl q_2_86, i_X2_readSum.1, i_X2_readSum.2⟩ ⟨by decide, rfl⟩ (congrArg Prod.fst (J.1.1 95 (2, 6) rfl)) rfl (by decide) rfl rfl ⟨by decide, by decide⟩ (sf_X2_readSum_r95_c7  hD J qu2 qu3 (by omega)  (fun v7 h ev7 J S4 u5 u6 qu5 qu6 ru5 => ?_))
  have Sm := jSm_tr rfl Sm S4
  have eu5 := (show 0 ≤ u5.toInt ∧ u5.toInt ≤ 3 from qu5 ▸ jrg_f J sg_68_5_6_1_0_1)
  have eu6 := (show 0 ≤ u6.toInt ∧ u6.toInt ≤ 400 from qu6 ▸ jrg_f J sg_68_3_4_1_0_1)
  show jX m_X2_readPlain 9 0 0 218 [(4, .int 9), (0, .ref 95), (1, .int 7), (2, .int l2)] [.int v7] _ 0 0 _
  refine x_ifne (tgt := 223) rfl rfl (ti_ne rfl jk_0 ⟨fun c8 => ?_, fun c8 => ?_⟩)
  ·
    refine x_aloadn (x := 95) rfl rfl ?_
    refine x_iload (x := 9) rfl rfl ?_
    refine x_inv (N := m_X2_emit) (As := [.int 9]) (b := 95) (st := []) (dx9 := 1) (mc := 0) (ms := 0) (host := "") 2 rfl t_X2_emit ⟨Or.inl q_2_89, i_X2_emit.1, i_X2_emit.2⟩ ⟨by decide, rfl⟩ (congrArg Prod.fst (J.1.1 95 (2, 6) rfl)) rfl (by decide) rfl rfl ⟨by decide, by decide⟩ (sf_X2_emit_r95  hD J  (fun h J S9 => ?_))
    have Sm := jSm_tr rfl Sm S9
    show jX m_X2_readPlain 9 0 0 229 [(4, .int 9), (0, .ref 95), (1, .int 7), (2, .int l2)] [] _ 0 0 _
    exact jX.sub (jsb_c rfl (jsb_c rfl jsb_n)) (ct_X2_readPlain_r95_c7_229 hD hQ  l2 u6 u5 h (jr_of rfl (by omega)) (jr_of rfl (by omega)) (jr_of rfl (by omega)) (by omega) (jmc S9 rfl qu6) (jmc S9 rfl qu5) J Sm)
  ·
    refine x_iconst (v := 0) rfl ki_0 ?_
    refine x_zret rfl rfl (by decide) ?_
    exact hQ _ _ (jr_of jk_0 (by omega)) J Sm _ _ qu5 qu6 (by omega)
set_option maxRecDepth 100000 in
set_option maxHeartbeats 4000000 in
theorem ct_X2_readPlain_r95_c7_1000190 {Dy : jH → Prop} {h0 : jH} {Q : Option Value → jH → Prop} (hD : jDk Dy) (hQ : ∀ (v : Int32) hx9, 0 ≤ v.toInt ∧ v.toInt ≤ 1 → jJ jSgX Dy hx9 → jSm fp_X2_readPlain_r95_c7 h0 hx9 → ∀ u0 u1 : Int32, jiv hx9 68 5 = u0 → jiv hx9 68 3 = u1 → (u0.toInt ≠ 3 ∨ u1.toInt ≤ 399) → Q (some (.int v)) hx9) : ∀ (l2 : Int32) (g0 : Int32) (g1 : Int32) (h : jH), 0 ≤ l2.toInt ∧ l2.toInt ≤ 1 → 0 ≤ g0.toInt ∧ g0.toInt ≤ 400 → 0 ≤ g1.toInt ∧ g1.toInt ≤ 3 → (g1.toInt ≠ 3 ∨ g0.toInt ≤ 399) → jiv h 68 3 = g0 → jiv h 68 5 = g1 → jJ jSgX Dy h → jSm fp_X2_readPlain_r95_c7 h0 h → jX m_X2_readPlain 9 0 0 190 [(0, .ref 95), (1, .int 7), (2, .int l2)] [.int 8] h 0 0 Q := by
  intro l2 g0 g1 h y0 y1 y2 y3 z0 z1  J Sm
  refine x_istore (lsx9 := [(4, .int 8), (0, .ref 95), (1, .int 7), (2, .int l2)]) rfl rfl rfl ?_
  refine x_iload (x := 8) rfl rfl ?_
  refine x_iconst (v := (-1)) rfl ki_m1 ?_
  refine x_icne (tgt := 206) rfl rfl (ti_ne jk_8 jk_m1 (bn_t (by omega) ?_))
  refine x_aloadn (x := 95) rfl rfl ?_
  refine z_getR (N := 6) (b := 68) 2 0 rfl f_2_30 rfl J rfl 12160 ⟨rfl, rfl⟩ rfl ?_
  refine x_inv (N := m_X9_step) (As := []) (b := 68) (st := []) (dx9 := 2) (mc := 0) (ms := 0) (host := "") 9 rfl t_X9_step ⟨Or.inl q_2_62, i_X9_step.1, i_X9_step.2⟩ ⟨by decide, rfl⟩ (congrArg Prod.fst (J.1.1 68 (9, 6) rfl)) rfl (by decide) rfl rfl ⟨by decide, by decide⟩ (sf_X9_step_r68  hD J z1 z0 (by omega)  (fun h J S1 u2 u3 qu2 qu3 ru2 => ?_))
  have Sm := jSm_tr rfl Sm S1
  have eu2 := (show 0 ≤ u2.toInt ∧ u2.toInt ≤ 3 from qu2 ▸ jrg_f J sg_68_5_6_1_0_1)
  have eu3 := (show 0 ≤ u3.toInt ∧ u3.toInt ≤ 400 from qu3 ▸ jrg_f J sg_68_3_4_1_0_1)
  show jX m_X2_readPlain 9 0 0 213 [(4, .int 8), (0, .ref 95), (1, .int 7), (2, .int l2)] [] _ 0 0 _
  refine x_aloadn (x := 95) rfl rfl ?_
  refine x_iloadn (x := 7) rfl rfl ?_
  refine x_inv (N := m_X2_readSum) (As := [.int 7]) (b := 95) (st := []) (dx9 := 8) (mc := 0) (ms := 0) (host := "") 2 rfl t_X2_readSum ⟨Or.inl q_2_86, i_X2_readSum.1, i_X2_readSum.2⟩ ⟨by decide, rfl⟩ (congrArg Prod.fst (J.1.1 95 (2, 6) rfl)) rfl (by decide) rfl rfl ⟨by decide, by decide⟩ (sf_X2_readSum_r95_c7  hD J qu2 qu3 (by omega)  (fun v7 h ev7 J S4 u5 u6 qu5 qu6 ru5 => ?_))
  have Sm := jSm_tr rfl Sm S4
  have eu5 := (show 0 ≤ u5.toInt ∧ u5.toInt ≤ 3 from qu5 ▸ jrg_f J sg_68_5_6_1_0_1)
  have eu6 := (show 0 ≤ u6.toInt ∧ u6.toInt ≤ 400 from qu6 ▸ jrg_f J sg_68_3_4_1_0_1)
  show jX m_X2_readPlain 9 0 0 218 [(4, .int 8), (0, .ref 95), (1, .int 7), (2, .int l2)] [.int v7] _ 0 0 _
  refine x_ifne (tgt := 223) rfl rfl (ti_ne rfl jk_0 ⟨fun c8 => ?_, fun c8 => ?_⟩)
  ·
    refine x_aloadn (x := 95) rfl rfl ?_
    refine x_iload (x := 8) rfl rfl ?_
    refine x_inv (N := m_X2_emit) (As := [.int 8]) (b := 95) (st := []) (dx9 := 1) (mc := 0) (ms := 0) (host := "") 2 rfl t_X2_emit ⟨Or.inl q_2_89, i_X2_emit.1, i_X2_emit.2⟩ ⟨by decide, rfl⟩ (congrArg Prod.fst (J.1.1 95 (2, 6) rfl)) rfl (by decide) rfl rfl ⟨by decide, by decide⟩ (sf_X2_emit_r95  hD J  (fun h J S9 => ?_))
    have Sm := jSm_tr rfl Sm S9
    show jX m_X2_readPlain 9 0 0 229 [(4, .int 8), (0, .ref 95), (1, .int 7), (2, .int l2)] [] _ 0 0 _
    exact jX.sub (jsb_c rfl (jsb_c rfl jsb_n)) (ct_X2_readPlain_r95_c7_229 hD hQ  l2 u6 u5 h (jr_of rfl (by omega)) (jr_of rfl (by omega)) (jr_of rfl (by omega)) (by omega) (jmc S9 rfl qu6) (jmc S9 rfl qu5) J Sm)
  ·
    refine x_iconst (v := 0) rfl ki_0 ?_
    refine x_zret rfl rfl (by decide) ?_
    exact hQ _ _ (jr_of jk_0 (by omega)) J Sm _ _ qu5 qu6 (by omega)
set_option maxRecDepth 100000 in
set_option maxHeartbeats 4000000 in
theorem ct_X2_readPlain_r95_c7_900190 {Dy : jH → Prop} {h0 : jH} {Q : Option Value → jH → Prop} (hD : jDk Dy) (hQ : ∀ (v : Int32) hx9, 0 ≤ v.toInt ∧ v.toInt ≤ 1 → jJ jSgX Dy hx9 → jSm fp_X2_readPlain_r95_c7 h0 hx9 → ∀ u0 u1 : Int32, jiv hx9 68 5 = u0 → jiv hx9 68 3 = u1 → (u0.toInt ≠ 3 ∨ u1.toInt ≤ 399) → Q (some (.int v)) hx9) : ∀ (l2 : Int32) (g0 : Int32) (g1 : Int32) (h : jH), 0 ≤ l2.toInt ∧ l2.toInt ≤ 1 → 0 ≤ g0.toInt ∧ g0.toInt ≤ 400 → 0 ≤ g1.toInt ∧ g1.toInt ≤ 3 → (g1.toInt ≠ 3 ∨ g0.toInt ≤ 399) → jiv h 68 3 = g0 → jiv h 68 5 = g1 → jJ jSgX Dy h → jSm fp_X2_readPlain_r95_c7 h0 h → jX m_X2_readPlain 9 0 0 190 [(0, .ref 95), (1, .int 7), (2, .int l2)] [.int 7] h 0 0 Q := by
  intro l2 g0 g1 h y0 y1 y2 y3 z0 z1  J Sm
  refine x_istore (lsx9 := [(4, .int 7), (0, .ref 95), (1, .int 7), (2, .int l2)]) rfl rfl rfl ?_
  refine x_iload (x := 7) rfl rfl ?_
  refine x_iconst (v := (-1)) rfl ki_m1 ?_
  refine x_icne (tgt := 206) rfl rfl (ti_ne jk_7 jk_m1 (bn_t (by omega) ?_))
  refine x_aloadn (x := 95) rfl rfl ?_
  refine z_getR (N := 6) (b := 68) 2 0 rfl f_2_30 rfl J rfl 12160 ⟨rfl, rfl⟩ rfl ?_
  refine x_inv (N := m_X9_step) (As := []) (b := 68) (st := []) (dx9 := 2) (mc := 0) (ms := 0) (host := "") 9 rfl t_X9_step ⟨Or.inl q_2_62, i_X9_step.1, i_X9_step.2⟩ ⟨by decide, rfl⟩ (congrArg Prod.fst (J.1.1 68 (9, 6) rfl)) rfl (by decide) rfl rfl ⟨by decide, by decide⟩ (sf_X9_step_r68  hD J z1 z0 (by omega)  (fun h J S1 u2 u3 qu2 qu3 ru2 => ?_))
  have Sm := jSm_tr rfl Sm S1
  have eu2 := (show 0 ≤ u2.toInt ∧ u2.toInt ≤ 3 from qu2 ▸ jrg_f J sg_68_5_6_1_0_1)
  have eu3 := (show 0 ≤ u3.toInt ∧ u3.toInt ≤ 400 from qu3 ▸ jrg_f J sg_68_3_4_1_0_1)
  show jX m_X2_readPlain 9 0 0 213 [(4, .int 7), (0, .ref 95), (1, .int 7), (2, .int l2)] [] _ 0 0 _
  refine x_aloadn (x := 95) rfl rfl ?_
  refine x_iloadn (x := 7) rfl rfl ?_
  refine x_inv (N := m_X2_readSum) (As := [.int 7]) (b := 95) (st := []) (dx9 := 8) (mc := 0) (ms := 0) (host := "") 2 rfl t_X2_readSum ⟨Or.inl q_2_86, i_X2_readSum.1, i_X2_readSum.2⟩ ⟨by decide, rfl⟩ (congrArg Prod.fst (J.1.1 95 (2, 6) rfl)) rfl (by decide) rfl rfl ⟨by decide, by decide⟩ (sf_X2_readSum_r95_c7  hD J qu2 qu3 (by omega)  (fun v7 h ev7 J S4 u5 u6 qu5 qu6 ru5 => ?_))
  have Sm := jSm_tr rfl Sm S4
  have eu5 := (show 0 ≤ u5.toInt ∧ u5.toInt ≤ 3 from qu5 ▸ jrg_f J sg_68_5_6_1_0_1)
  have eu6 := (show 0 ≤ u6.toInt ∧ u6.toInt ≤ 400 from qu6 ▸ jrg_f J sg_68_3_4_1_0_1)
  show jX m_X2_readPlain 9 0 0 218 [(4, .int 7), (0, .ref 95), (1, .int 7), (2, .int l2)] [.int v7] _ 0 0 _
  refine x_ifne (tgt := 223) rfl rfl (ti_ne rfl jk_0 ⟨fun c8 => ?_, fun c8 => ?_⟩)
  ·
    refine x_aloadn (x := 95) rfl rfl ?_
    refine x_iload (x := 7) rfl rfl ?_
    refine x_inv (N := m_X2_emit) (As := [.int 7]) (b := 95) (st := []) (dx9 := 1) (mc := 0) (ms := 0) (host := "") 2 rfl t_X2_emit ⟨Or.inl q_2_89, i_X2_emit.1, i_X2_emit.2⟩ ⟨by decide, rfl⟩ (congrArg Prod.fst (J.1.1 95 (2, 6) rfl)) rfl (by decide) rfl rfl ⟨by decide, by decide⟩ (sf_X2_emit_r95  hD J  (fun h J S9 => ?_))
    have Sm := jSm_tr rfl Sm S9
    show jX m_X2_readPlain 9 0 0 229 [(4, .int 7), (0, .ref 95), (1, .int 7), (2, .int l2)] [] _ 0 0 _
    exact jX.sub (jsb_c rfl (jsb_c rfl jsb_n)) (ct_X2_readPlain_r95_c7_229 hD hQ  l2 u6 u5 h (jr_of rfl (by omega)) (jr_of rfl (by omega)) (jr_of rfl (by omega)) (by omega) (jmc S9 rfl qu6) (jmc S9 rfl qu5) J Sm)
  ·
    refine x_iconst (v := 0) rfl ki_0 ?_
    refine x_zret rfl rfl (by decide) ?_
    exact hQ _ _ (jr_of jk_0 (by omega)) J Sm _ _ qu5 qu6 (by omega)
set_option maxRecDepth 100000 in
set_option maxHeartbeats 4000000 in
theorem ct_X2_readPlain_r95_c7_108 {Dy : jH → Prop} {h0 : jH} {Q : Option Value → jH → Prop} (hD : jDk Dy) (hQ : ∀ (v : Int32) hx9, 0 ≤ v.toInt ∧ v.toInt ≤ 1 → jJ jSgX Dy hx9 → jSm fp_X2_readPlain_r95_c7 h0 hx9 → ∀ u0 u1 : Int32, jiv hx9 68 5 = u0 → jiv hx9 68 3 = u1 → (u0.toInt ≠ 3 ∨ u1.toInt ≤ 399) → Q (some (.int v)) hx9) : ∀ (g0 : Int32) (g1 : Int32) (h : jH), 0 ≤ g0.toInt ∧ g0.toInt ≤ 400 → 0 ≤ g1.toInt ∧ g1.toInt ≤ 3 → (g1.toInt ≠ 3 ∨ g0.toInt ≤ 399) → jiv h 68 3 = g0 → jiv h 68 5 = g1 → jJ jSgX Dy h → jSm fp_X2_readPlain_r95_c7 h0 h → jX m_X2_readPlain 9 0 0 108 [] [] h 0 0 Q := by
  intro g0 g1 h y0 y1 y2 z0 z1  J Sm
  refine x_iconst (v := 0) rfl ki_0 ?_
  refine x_zret rfl rfl (by decide) ?_
  exact hQ _ _ (jr_of jk_0 (by omega)) J Sm _ _ z1 z0 (by omega)
set_option maxRecDepth 100000 in
set_option maxHeartbeats 4000000 in
theorem ct_X2_readPlain_r95_c7_46 {Dy : jH → Prop} {h0 : jH} {Q : Option Value → jH → Prop} (hD : jDk Dy) (hQ : ∀ (v : Int32) hx9, 0 ≤ v.toInt ∧ v.toInt ≤ 1 → jJ jSgX Dy hx9 → jSm fp_X2_readPlain_r95_c7 h0 hx9 → ∀ u0 u1 : Int32, jiv hx9 68 5 = u0 → jiv hx9 68 3 = u1 → (u0.toInt ≠ 3 ∨ u1.toInt ≤ 399) → Q (some (.int v)) hx9) : ∀ (l2 : Int32) (g0 : Int32) (g1 : Int32) (h : jH), 0 ≤ l2.toInt ∧ l2.toInt ≤ 1 → 0 ≤ g0.toInt ∧ g0.toInt ≤ 400 → 0 ≤ g1.toInt ∧ g1.toInt ≤ 3 → (g1.toInt ≠ 3 ∨ g0.toInt ≤ 399) → jiv h 68 3 = g0 → jiv h 68 5 = g1 → jJ jSgX Dy h → jSm fp_X2_readPlain_r95_c7 h0 h → jX m_X2_readPlain 9 0 0 46 [(0, .ref 95), (1, .int 7), (2, .int l2)] [] h 0 0 Q := by
  intro l2 g0 g1 h y0 y1 y2 y3 z0 z1  J Sm
  refine x_aloadn (x := 95) rfl rfl ?_
  refine z_getR (N := 6) (b := 68) 2 0 rfl f_2_30 rfl J rfl 12160 ⟨rfl, rfl⟩ rfl ?_
  refine x_ldcS (jstr.getD 10 jstr_0) rfl (List.mem_of_getElem? (i := 10) rfl) rfl rfl ?_
  show jX m_X2_readPlain 9 0 0 52 [(0, .ref 95), (1, .int 7), (2, .int l2)] [.ref 15, .ref 68] _ 0 0 _
  refine x_inv (N := m_X9_wordOf) (As := [.ref 15]) (b := 68) (st := []) (dx9 := 4) (mc := 0) (ms := 0) (host := "") 9 rfl t_X9_wordOf ⟨Or.inl q_2_67, i_X9_wordOf.1, i_X9_wordOf.2⟩ ⟨by decide, rfl⟩ (congrArg Prod.fst (J.1.1 68 (9, 6) rfl)) rfl (by decide) rfl rfl ⟨by decide, by decide⟩ (sf_X9_wordOf_r68_r15  hD J  (fun v2 h J S1 => ?_))
  have ev2 := jfull v2
  have Sm := jSm_tr rfl Sm S1
  show jX m_X2_readPlain 9 0 0 55 [(0, .ref 95), (1, .int 7), (2, .int l2)] [.int v2] _ 0 0 _
  refine x_istoren (lsx9 := [(3, .int v2), (0, .ref 95), (1, .int 7), (2, .int l2)]) rfl rfl rfl ?_
  refine x_aloadn (x := 95) rfl rfl ?_
  refine z_getR (N := 6) (b := 68) 2 0 rfl f_2_30 rfl J rfl 12160 ⟨rfl, rfl⟩ rfl ?_
  refine x_bipush (v := 40) rfl kb_40 ?_
  refine x_inv (N := m_X9_isSign) (As := [.int 40]) (b := 68) (st := []) (dx9 := 1) (mc := 0) (ms := 0) (host := "") 9 rfl t_X9_isSign ⟨Or.inl q_2_55, i_X9_isSign.1, i_X9_isSign.2⟩ ⟨by decide, rfl⟩ (congrArg Prod.fst (J.1.1 68 (9, 6) rfl)) rfl (by decide) rfl rfl ⟨by decide, by decide⟩ (sf_X9_isSign_r68 (jr_of jk_40 (by omega)) hD J (jmc S1 rfl z1) (jmc S1 rfl z0) (by omega)  (fun v6 h ev6 J S3 u4 u5 qu4 qu5 ru4 => ?_))
  have Sm := jSm_tr rfl Sm S3
  have eu4 := (show 0 ≤ u4.toInt ∧ u4.toInt ≤ 3 from qu4 ▸ jrg_f J sg_68_5_6_1_0_1)
  have eu5 := (show 0 ≤ u5.toInt ∧ u5.toInt ≤ 400 from qu5 ▸ jrg_f J sg_68_3_4_1_0_1)
  show jX m_X2_readPlain 9 0 0 65 [(3, .int v2), (0, .ref 95), (1, .int 7), (2, .int l2)] [.int v6] _ 0 0 _
  refine x_ifeq (tgt := 110) rfl rfl (ti_eq rfl jk_0 ⟨fun c7 => ?_, fun c7 => ?_⟩)
  ·
    refine x_iloadn (x := v2) rfl rfl ?_
    refine x_iconst (v := (-1)) rfl ki_m1 ?_
    refine x_iceq (tgt := 128) rfl rfl (ti_eq rfl jk_m1 ⟨fun c8 => ?_, fun c8 => ?_⟩)
    ·
      refine x_aloadn (x := 95) rfl rfl ?_
      refine x_iloadn (x := 7) rfl rfl ?_
      refine x_inv (N := m_X2_readSum) (As := [.int 7]) (b := 95) (st := []) (dx9 := 8) (mc := 0) (ms := 0) (host := "") 2 rfl t_X2_readSum ⟨Or.inl q_2_86, i_X2_readSum.1, i_X2_readSum.2⟩ ⟨by decide, rfl⟩ (congrArg Prod.fst (J.1.1 95 (2, 6) rfl)) rfl (by decide) rfl rfl ⟨by decide, by decide⟩ (sf_X2_readSum_r95_c7  hD J qu4 qu5 (by omega)  (fun v12 h ev12 J S9 u10 u11 qu10 qu11 ru10 => ?_))
      have Sm := jSm_tr rfl Sm S9
      have eu10 := (show 0 ≤ u10.toInt ∧ u10.toInt ≤ 3 from qu10 ▸ jrg_f J sg_68_5_6_1_0_1)
      have eu11 := (show 0 ≤ u11.toInt ∧ u11.toInt ≤ 400 from qu11 ▸ jrg_f J sg_68_3_4_1_0_1)
      show jX m_X2_readPlain 9 0 0 133 [(3, .int v2), (0, .ref 95), (1, .int 7), (2, .int l2)] [.int v12] _ 0 0 _
      refine x_ifne (tgt := 138) rfl rfl (ti_ne rfl jk_0 ⟨fun c13 => ?_, fun c13 => ?_⟩)
      ·
        refine x_aloadn (x := 95) rfl rfl ?_
        refine z_getR (N := 6) (b := 68) 2 0 rfl f_2_30 rfl J rfl 12160 ⟨rfl, rfl⟩ rfl ?_
        refine x_bipush (v := 60) rfl kb_60 ?_
        refine x_inv (N := m_X9_isSign) (As := [.int 60]) (b := 68) (st := []) (dx9 := 1) (mc := 0) (ms := 0) (host := "") 9 rfl t_X9_isSign ⟨Or.inl q_2_55, i_X9_isSign.1, i_X9_isSign.2⟩ ⟨by decide, rfl⟩ (congrArg Prod.fst (J.1.1 68 (9, 6) rfl)) rfl (by decide) rfl rfl ⟨by decide, by decide⟩ (sf_X9_isSign_r68 (jr_of jk_60 (by omega)) hD J qu10 qu11 (by omega)  (fun v17 h ev17 J S14 u15 u16 qu15 qu16 ru15 => ?_))
        have Sm := jSm_tr rfl Sm S14
        have eu15 := (show 0 ≤ u15.toInt ∧ u15.toInt ≤ 3 from qu15 ▸ jrg_f J sg_68_5_6_1_0_1)
        have eu16 := (show 0 ≤ u16.toInt ∧ u16.toInt ≤ 400 from qu16 ▸ jrg_f J sg_68_3_4_1_0_1)
        show jX m_X2_readPlain 9 0 0 147 [(3, .int v2), (0, .ref 95), (1, .int 7), (2, .int l2)] [.int v17] _ 0 0 _
        refine x_ifeq (tgt := 155) rfl rfl (ti_eq rfl jk_0 ⟨fun c18 => ?_, fun c18 => ?_⟩)
        ·
          refine x_aloadn (x := 95) rfl rfl ?_
          refine z_getR (N := 6) (b := 68) 2 0 rfl f_2_30 rfl J rfl 12160 ⟨rfl, rfl⟩ rfl ?_
          refine x_bipush (v := 62) rfl kb_62 ?_
          refine x_inv (N := m_X9_isSign) (As := [.int 62]) (b := 68) (st := []) (dx9 := 1) (mc := 0) (ms := 0) (host := "") 9 rfl t_X9_isSign ⟨Or.inl q_2_55, i_X9_isSign.1, i_X9_isSign.2⟩ ⟨by decide, rfl⟩ (congrArg Prod.fst (J.1.1 68 (9, 6) rfl)) rfl (by decide) rfl rfl ⟨by decide, by decide⟩ (sf_X9_isSign_r68 (jr_of jk_62 (by omega)) hD J qu15 qu16 (by omega)  (fun v22 h ev22 J S19 u20 u21 qu20 qu21 ru20 => ?_))
          have Sm := jSm_tr rfl Sm S19
          have eu20 := (show 0 ≤ u20.toInt ∧ u20.toInt ≤ 3 from qu20 ▸ jrg_f J sg_68_5_6_1_0_1)
          have eu21 := (show 0 ≤ u21.toInt ∧ u21.toInt ≤ 400 from qu21 ▸ jrg_f J sg_68_3_4_1_0_1)
          show jX m_X2_readPlain 9 0 0 164 [(3, .int v2), (0, .ref 95), (1, .int 7), (2, .int l2)] [.int v22] _ 0 0 _
          refine x_ifeq (tgt := 172) rfl rfl (ti_eq rfl jk_0 ⟨fun c23 => ?_, fun c23 => ?_⟩)
          ·
            refine x_aloadn (x := 95) rfl rfl ?_
            refine z_getR (N := 6) (b := 68) 2 0 rfl f_2_30 rfl J rfl 12160 ⟨rfl, rfl⟩ rfl ?_
            refine x_bipush (v := 61) rfl kb_61 ?_
            refine x_inv (N := m_X9_isSign) (As := [.int 61]) (b := 68) (st := []) (dx9 := 1) (mc := 0) (ms := 0) (host := "") 9 rfl t_X9_isSign ⟨Or.inl q_2_55, i_X9_isSign.1, i_X9_isSign.2⟩ ⟨by decide, rfl⟩ (congrArg Prod.fst (J.1.1 68 (9, 6) rfl)) rfl (by decide) rfl rfl ⟨by decide, by decide⟩ (sf_X9_isSign_r68 (jr_of jk_61 (by omega)) hD J qu20 qu21 (by omega)  (fun v27 h ev27 J S24 u25 u26 qu25 qu26 ru25 => ?_))
            have Sm := jSm_tr rfl Sm S24
            have eu25 := (show 0 ≤ u25.toInt ∧ u25.toInt ≤ 3 from qu25 ▸ jrg_f J sg_68_5_6_1_0_1)
            have eu26 := (show 0 ≤ u26.toInt ∧ u26.toInt ≤ 400 from qu26 ▸ jrg_f J sg_68_3_4_1_0_1)
            show jX m_X2_readPlain 9 0 0 181 [(3, .int v2), (0, .ref 95), (1, .int 7), (2, .int l2)] [.int v27] _ 0 0 _
            refine x_ifeq (tgt := 189) rfl rfl (ti_eq rfl jk_0 ⟨fun c28 => ?_, fun c28 => ?_⟩)
            ·
              refine x_iconst (v := (-1)) rfl ki_m1 ?_
              exact jX.sub (jsb_c rfl (jsb_c rfl (jsb_c rfl jsb_n))) (ct_X2_readPlain_r95_c7_100190 hD hQ  l2 u26 u25 h (jr_of rfl (by omega)) (jr_of rfl (by omega)) (jr_of rfl (by omega)) (by omega) qu26 qu25 J Sm)
            ·
              refine x_bipush (v := 9) rfl kb_9 ?_
              refine x_goto (tgt := 190) rfl rfl ?_
              exact jX.sub (jsb_c rfl (jsb_c rfl (jsb_c rfl jsb_n))) (ct_X2_readPlain_r95_c7_190 hD hQ  l2 u26 u25 h (jr_of rfl (by omega)) (jr_of rfl (by omega)) (jr_of rfl (by omega)) (by omega) qu26 qu25 J Sm)
          ·
            refine x_bipush (v := 8) rfl kb_8 ?_
            refine x_goto (tgt := 190) rfl rfl ?_
            exact jX.sub (jsb_c rfl (jsb_c rfl (jsb_c rfl jsb_n))) (ct_X2_readPlain_r95_c7_1000190 hD hQ  l2 u21 u20 h (jr_of rfl (by omega)) (jr_of rfl (by omega)) (jr_of rfl (by omega)) (by omega) qu21 qu20 J Sm)
        ·
          refine x_bipush (v := 7) rfl kb_7 ?_
          refine x_goto (tgt := 190) rfl rfl ?_
          exact jX.sub (jsb_c rfl (jsb_c rfl (jsb_c rfl jsb_n))) (ct_X2_readPlain_r95_c7_900190 hD hQ  l2 u16 u15 h (jr_of rfl (by omega)) (jr_of rfl (by omega)) (jr_of rfl (by omega)) (by omega) qu16 qu15 J Sm)
      ·
        refine x_iconst (v := 0) rfl ki_0 ?_
        refine x_zret rfl rfl (by decide) ?_
        exact hQ _ _ (jr_of jk_0 (by omega)) J Sm _ _ qu10 qu11 (by omega)
    ·
      refine x_aloadn (x := 95) rfl rfl ?_
      refine x_iconst (v := 2) rfl ki_2 ?_
      refine x_iconst (v := 5) rfl ki_5 ?_
      refine x_iloadn (x := v2) rfl rfl ?_
      refine z_iadd0 rfl (fun v29 => ?_)
      have ev29 := jfull v29
      refine x_inv (N := m_X2_readPart) (As := [.int 2, .int v29]) (b := 95) (st := []) (dx9 := 3) (mc := 0) (ms := 0) (host := "") 2 rfl t_X2_readPart ⟨Or.inl q_2_141, i_X2_readPart.1, i_X2_readPart.2⟩ ⟨by decide, rfl⟩ (congrArg Prod.fst (J.1.1 95 (2, 6) rfl)) rfl (by decide) rfl rfl ⟨by decide, by decide⟩ (sf_X2_readPart_r95 (jr_of jk_2 (by omega)) hD J qu4 qu5 (by omega)  (fun v33 h ev33 J S30 u31 u32 qu31 qu32 ru31 => ?_))
      have Sm := jSm_tr rfl Sm S30
      have eu31 := (show 0 ≤ u31.toInt ∧ u31.toInt ≤ 3 from qu31 ▸ jrg_f J sg_68_5_6_1_0_1)
      have eu32 := (show 0 ≤ u32.toInt ∧ u32.toInt ≤ 400 from qu32 ▸ jrg_f J sg_68_3_4_1_0_1)
      show jX m_X2_readPlain 9 0 0 123 [(3, .int v2), (0, .ref 95), (1, .int 7), (2, .int l2)] [.int v33] _ 0 0 _
      refine x_ifne (tgt := 229) rfl rfl (ti_ne rfl jk_0 ⟨fun c34 => ?_, fun c34 => ?_⟩)
      ·
        exact jX.sub (jsb_c rfl (jsb_c rfl jsb_n)) (ct_X2_readPlain_r95_c7_229 hD hQ  l2 u32 u31 h (jr_of rfl (by omega)) (jr_of rfl (by omega)) (jr_of rfl (by omega)) (by omega) qu32 qu31 J Sm)
      ·
        refine x_iconst (v := 0) rfl ki_0 ?_
        refine x_zret rfl rfl (by decide) ?_
        exact hQ _ _ (jr_of jk_0 (by omega)) J Sm _ _ qu31 qu32 (by omega)
  ·
    refine x_iloadn (x := 7) rfl rfl ?_
    refine x_bipush (v := 8) rfl kb_8 ?_
    refine x_iclt (tgt := 82) rfl rfl (ti_lt jk_7 jk_8 (br_t (by omega) ?_))
    refine x_aloadn (x := 95) rfl rfl ?_
    refine z_getR (N := 6) (b := 68) 2 0 rfl f_2_30 rfl J rfl 12160 ⟨rfl, rfl⟩ rfl ?_
    refine x_inv (N := m_X9_step) (As := []) (b := 68) (st := []) (dx9 := 2) (mc := 0) (ms := 0) (host := "") 9 rfl t_X9_step ⟨Or.inl q_2_62, i_X9_step.1, i_X9_step.2⟩ ⟨by decide, rfl⟩ (congrArg Prod.fst (J.1.1 68 (9, 6) rfl)) rfl (by decide) rfl rfl ⟨by decide, by decide⟩ (sf_X9_step_r68  hD J qu4 qu5 (by omega)  (fun h J S35 u36 u37 qu36 qu37 ru36 => ?_))
    have Sm := jSm_tr rfl Sm S35
    have eu36 := (show 0 ≤ u36.toInt ∧ u36.toInt ≤ 3 from qu36 ▸ jrg_f J sg_68_5_6_1_0_1)
    have eu37 := (show 0 ≤ u37.toInt ∧ u37.toInt ≤ 400 from qu37 ▸ jrg_f J sg_68_3_4_1_0_1)
    show jX m_X2_readPlain 9 0 0 89 [(3, .int v2), (0, .ref 95), (1, .int 7), (2, .int l2)] [] _ 0 0 _
    refine x_aloadn (x := 95) rfl rfl ?_
    refine x_iloadn (x := 7) rfl rfl ?_
    refine x_iconst (v := 1) rfl ki_1 ?_
    refine y_iadd (v := 8) rfl (by decide) ?_
    refine x_inv (N := m_X2_readTest) (As := [.int 8]) (b := 95) (st := []) (dx9 := 8) (mc := 0) (ms := 0) (host := "") 2 rfl t_X2_readTest ⟨Or.inl q_2_96, i_X2_readTest.1, i_X2_readTest.2⟩ ⟨by decide, rfl⟩ (congrArg Prod.fst (J.1.1 95 (2, 6) rfl)) rfl (by decide) rfl rfl ⟨by decide, by decide⟩ (sf_X2_readTest_r95_c8  hD J qu36 qu37 (by omega)  (fun v41 h ev41 J S38 u39 u40 qu39 qu40 ru39 => ?_))
    have Sm := jSm_tr rfl Sm S38
    have eu39 := (show 0 ≤ u39.toInt ∧ u39.toInt ≤ 3 from qu39 ▸ jrg_f J sg_68_5_6_1_0_1)
    have eu40 := (show 0 ≤ u40.toInt ∧ u40.toInt ≤ 400 from qu40 ▸ jrg_f J sg_68_3_4_1_0_1)
    show jX m_X2_readPlain 9 0 0 96 [(3, .int v2), (0, .ref 95), (1, .int 7), (2, .int l2)] [.int v41] _ 0 0 _
    refine x_ifeq (tgt := 108) rfl rfl (ti_eq rfl jk_0 ⟨fun c42 => ?_, fun c42 => ?_⟩)
    ·
      exact jX.sub jsb_n (ct_X2_readPlain_r95_c7_108 hD hQ  u40 u39 h (jr_of rfl (by omega)) (jr_of rfl (by omega)) (by omega) qu40 qu39 J Sm)
    ·
      refine x_aloadn (x := 95) rfl rfl ?_
      refine x_bipush (v := 41) rfl kb_41 ?_
      refine x_inv (N := m_X2_readSign) (As := [.int 41]) (b := 95) (st := []) (dx9 := 8) (mc := 0) (ms := 0) (host := "") 2 rfl t_X2_readSign ⟨Or.inl q_2_138, i_X2_readSign.1, i_X2_readSign.2⟩ ⟨by decide, rfl⟩ (congrArg Prod.fst (J.1.1 95 (2, 6) rfl)) rfl (by decide) rfl rfl ⟨by decide, by decide⟩ (jC.of rfl k_X2_readSign rfl ?_)
      show jX m_X2_readSign 8 0 0 0 [(0, .ref 95), (1, .int 41)] [] _ 0 0 _
      refine x_aloadn (x := 95) rfl rfl ?_
      refine z_getR (N := 6) (b := 68) 2 0 rfl f_2_30 rfl J rfl 12160 ⟨rfl, rfl⟩ rfl ?_
      refine x_iloadn (x := 41) rfl rfl ?_
      refine x_inv (N := m_X9_isSign) (As := [.int 41]) (b := 68) (st := []) (dx9 := 1) (mc := 0) (ms := 0) (host := "") 9 rfl t_X9_isSign ⟨Or.inl q_2_55, i_X9_isSign.1, i_X9_isSign.2⟩ ⟨by decide, rfl⟩ (congrArg Prod.fst (J.1.1 68 (9, 6) rfl)) rfl (by decide) rfl rfl ⟨by decide, by decide⟩ (sf_X9_isSign_r68 (jr_of jk_41 (by omega)) hD J qu39 qu40 (by omega)  (fun v46 h ev46 J S43 u44 u45 qu44 qu45 ru44 => ?_))
      have Sm := jSm_tr rfl Sm S43
      have eu44 := (show 0 ≤ u44.toInt ∧ u44.toInt ≤ 3 from qu44 ▸ jrg_f J sg_68_5_6_1_0_1)
      have eu45 := (show 0 ≤ u45.toInt ∧ u45.toInt ≤ 400 from qu45 ▸ jrg_f J sg_68_3_4_1_0_1)
      show jX m_X2_readSign 8 0 0 8 [(0, .ref 95), (1, .int 41)] [.int v46] _ 0 0 _
      refine x_ifne (tgt := 19) rfl rfl (ti_ne rfl jk_0 ⟨fun c47 => ?_, fun c47 => ?_⟩)
      ·
        refine x_aloadn (x := 95) rfl rfl ?_
        refine z_getR (N := 6) (b := 68) 2 0 rfl f_2_30 rfl J rfl 12160 ⟨rfl, rfl⟩ rfl ?_
        refine x_inv (N := m_X9_step) (As := []) (b := 68) (st := []) (dx9 := 2) (mc := 0) (ms := 0) (host := "") 9 rfl t_X9_step ⟨Or.inl q_2_62, i_X9_step.1, i_X9_step.2⟩ ⟨by decide, rfl⟩ (congrArg Prod.fst (J.1.1 68 (9, 6) rfl)) rfl (by decide) rfl rfl ⟨by decide, by decide⟩ (sf_X9_step_r68  hD J qu44 qu45 (by omega)  (fun h J S48 u49 u50 qu49 qu50 ru49 => ?_))
        have Sm := jSm_tr rfl Sm S48
        have eu49 := (show 0 ≤ u49.toInt ∧ u49.toInt ≤ 3 from qu49 ▸ jrg_f J sg_68_5_6_1_0_1)
        have eu50 := (show 0 ≤ u50.toInt ∧ u50.toInt ≤ 400 from qu50 ▸ jrg_f J sg_68_3_4_1_0_1)
        show jX m_X2_readSign 8 0 0 26 [(0, .ref 95), (1, .int 41)] [] _ 0 0 _
        refine x_iconst (v := 1) rfl ki_1 ?_
        refine x_zret rfl rfl (by decide) ?_
        show jX m_X2_readPlain 9 0 0 105 [(3, .int v2), (0, .ref 95), (1, .int 7), (2, .int l2)] [.int 1] _ 0 0 _
        refine x_ifne (tgt := 229) rfl rfl (ti_ne jk_1 jk_0 (bn_t (by omega) ?_))
        exact jX.sub (jsb_c rfl (jsb_c rfl jsb_n)) (ct_X2_readPlain_r95_c7_229 hD hQ  l2 u50 u49 h (jr_of rfl (by omega)) (jr_of rfl (by omega)) (jr_of rfl (by omega)) (by omega) qu50 qu49 J Sm)
      ·
        refine x_aloadn (x := 95) rfl rfl ?_
        refine z_getR (N := 6) (b := 68) 2 0 rfl f_2_30 rfl J rfl 12160 ⟨rfl, rfl⟩ rfl ?_
        refine x_inv (N := m_X9_blame) (As := []) (b := 68) (st := []) (dx9 := 7) (mc := 0) (ms := 0) (host := "") 9 rfl t_X9_blame ⟨Or.inl q_2_59, i_X9_blame.1, i_X9_blame.2⟩ ⟨by decide, rfl⟩ (congrArg Prod.fst (J.1.1 68 (9, 6) rfl)) rfl (by decide) rfl rfl ⟨by decide, by decide⟩ (jC.of rfl k_X9_blame rfl ?_)
        show jX m_X9_blame 7 0 0 0 [(0, .ref 68)] [] _ 0 0 _
        refine x_aloadn (x := 68) rfl rfl ?_
        refine x_aloadn (x := 68) rfl rfl ?_
        refine z_getM (N := 6) (v := u45) 9 3 rfl f_9_22 rfl J rfl qu45 ?_
        refine z_putI (N := 6) (w := u45.toInt) 9 2 rfl f_9_19 rfl (jfin_no TX9 RX9 6 rfl rfl) hD J Sm rfl rfl rfl (pw_68_2 (by omega)) rfl (fun h w51 J Sm => ?_)
        refine x_iconst (v := 0) rfl ki_0 ?_
        refine x_zret rfl rfl (by decide) ?_
        show jX m_X2_readSign 8 0 0 18 [(0, .ref 95), (1, .int 41)] [.int 0] _ 0 0 _
        refine x_zret rfl rfl (by decide) ?_
        show jX m_X2_readPlain 9 0 0 105 [(3, .int v2), (0, .ref 95), (1, .int 7), (2, .int l2)] [.int 0] _ 0 0 _
        refine x_ifne (tgt := 229) rfl rfl (ti_ne jk_0 jk_0 (bn_f (by omega) ?_))
        exact jX.sub jsb_n (ct_X2_readPlain_r95_c7_108 hD hQ  u45 u44 h (jr_of rfl (by omega)) (jr_of rfl (by omega)) (by omega) (jmo w51 rfl qu45) (jmo w51 rfl qu44) J Sm)
set_option maxRecDepth 100000 in
set_option maxHeartbeats 4000000 in
theorem ct_X2_readPlain_r95_c7_300032 {Dy : jH → Prop} {h0 : jH} {Q : Option Value → jH → Prop} {R4 : Int} (hD : jDk Dy) (hQ : ∀ (v : Int32) hx9, 0 ≤ v.toInt ∧ v.toInt ≤ 1 → jJ jSgX Dy hx9 → jSm fp_X2_readPlain_r95_c7 h0 hx9 → ∀ u0 u1 : Int32, jiv hx9 68 5 = u0 → jiv hx9 68 3 = u1 → (u0.toInt ≠ 3 ∨ u1.toInt ≤ 399) → Q (some (.int v)) hx9) (k4 : ∀ (l2 : Int32) (l3 : Int32) (g0 : Int32) (g1 : Int32) (h : jH), 400 - l3.toInt < R4 → 0 ≤ l2.toInt ∧ l2.toInt ≤ 1 → 0 ≤ l3.toInt ∧ l3.toInt ≤ 400 → 0 ≤ g0.toInt ∧ g0.toInt ≤ 400 → 0 ≤ g1.toInt ∧ g1.toInt ≤ 3 → (g1.toInt ≠ 3 ∨ g0.toInt ≤ 399) → jiv h 68 3 = g0 → jiv h 68 5 = g1 → jJ jSgX Dy h → jSm fp_X2_readPlain_r95_c7 h0 h → jX m_X2_readPlain 9 0 0 4 [(0, .ref 95), (1, .int 7), (2, .int l2), (3, .int l3)] [] h 0 0 Q) : ∀ (l3 : Int32) (g0 : Int32) (g1 : Int32) (h : jH), 0 ≤ l3.toInt ∧ l3.toInt ≤ 399 → 0 ≤ g0.toInt ∧ g0.toInt ≤ 400 → 0 ≤ g1.toInt ∧ g1.toInt ≤ 3 → (g1.toInt ≠ 3 ∨ g0.toInt ≤ 399) → jiv h 68 3 = g0 → jiv h 68 5 = g1 → 400 - l3.toInt ≤ R4 → jJ jSgX Dy h → jSm fp_X2_readPlain_r95_c7 h0 h → jX m_X2_readPlain 9 0 0 32 [(0, .ref 95), (1, .int 7), (3, .int l3)] [.int 1] h 0 0 Q := by
  intro l3 g0 g1 h y0 y1 y2 y3 z0 z1 m4 J Sm
  refine x_istoren (lsx9 := [(2, .int 1), (0, .ref 95), (1, .int 7), (3, .int l3)]) rfl rfl rfl ?_
  refine x_aloadn (x := 95) rfl rfl ?_
  refine z_getR (N := 6) (b := 68) 2 0 rfl f_2_30 rfl J rfl 12160 ⟨rfl, rfl⟩ rfl ?_
  refine x_inv (N := m_X9_step) (As := []) (b := 68) (st := []) (dx9 := 2) (mc := 0) (ms := 0) (host := "") 9 rfl t_X9_step ⟨Or.inl q_2_62, i_X9_step.1, i_X9_step.2⟩ ⟨by decide, rfl⟩ (congrArg Prod.fst (J.1.1 68 (9, 6) rfl)) rfl (by decide) rfl rfl ⟨by decide, by decide⟩ (sf_X9_step_r68  hD J z1 z0 (by omega)  (fun h J S1 u2 u3 qu2 qu3 ru2 => ?_))
  have Sm := jSm_tr rfl Sm S1
  have eu2 := (show 0 ≤ u2.toInt ∧ u2.toInt ≤ 3 from qu2 ▸ jrg_f J sg_68_5_6_1_0_1)
  have eu3 := (show 0 ≤ u3.toInt ∧ u3.toInt ≤ 400 from qu3 ▸ jrg_f J sg_68_3_4_1_0_1)
  show jX m_X2_readPlain 9 0 0 40 [(2, .int 1), (0, .ref 95), (1, .int 7), (3, .int l3)] [] _ 0 0 _
  refine z_iinc (x := l3) (lsx9 := fun v4 => [(3, .int v4), (2, .int 1), (0, .ref 95), (1, .int 7)]) rfl rfl rfl jko_1 (by omega) rfl (fun _ => rfl) (fun v4 ev4 => ?_)
  refine x_goto (tgt := 4) rfl rfl ?_
  exact jX.sub (jsb_c rfl (jsb_c rfl (jsb_c rfl (jsb_c rfl jsb_n)))) (k4 1 v4 u3 u2 h (by omega) (jr_of jk_1 (by omega)) (jr_of rfl (by omega)) (jr_of rfl (by omega)) (jr_of rfl (by omega)) (by omega) qu3 qu2 J Sm)
set_option maxRecDepth 100000 in
set_option maxHeartbeats 4000000 in
theorem ct_X2_readPlain_r95_c7_200032 {Dy : jH → Prop} {h0 : jH} {Q : Option Value → jH → Prop} {R4 : Int} (hD : jDk Dy) (hQ : ∀ (v : Int32) hx9, 0 ≤ v.toInt ∧ v.toInt ≤ 1 → jJ jSgX Dy hx9 → jSm fp_X2_readPlain_r95_c7 h0 hx9 → ∀ u0 u1 : Int32, jiv hx9 68 5 = u0 → jiv hx9 68 3 = u1 → (u0.toInt ≠ 3 ∨ u1.toInt ≤ 399) → Q (some (.int v)) hx9) (k4 : ∀ (l2 : Int32) (l3 : Int32) (g0 : Int32) (g1 : Int32) (h : jH), 400 - l3.toInt < R4 → 0 ≤ l2.toInt ∧ l2.toInt ≤ 1 → 0 ≤ l3.toInt ∧ l3.toInt ≤ 400 → 0 ≤ g0.toInt ∧ g0.toInt ≤ 400 → 0 ≤ g1.toInt ∧ g1.toInt ≤ 3 → (g1.toInt ≠ 3 ∨ g0.toInt ≤ 399) → jiv h 68 3 = g0 → jiv h 68 5 = g1 → jJ jSgX Dy h → jSm fp_X2_readPlain_r95_c7 h0 h → jX m_X2_readPlain 9 0 0 4 [(0, .ref 95), (1, .int 7), (2, .int l2), (3, .int l3)] [] h 0 0 Q) : ∀ (l3 : Int32) (g0 : Int32) (g1 : Int32) (h : jH), 0 ≤ l3.toInt ∧ l3.toInt ≤ 399 → 0 ≤ g0.toInt ∧ g0.toInt ≤ 400 → 0 ≤ g1.toInt ∧ g1.toInt ≤ 3 → (g1.toInt ≠ 3 ∨ g0.toInt ≤ 399) → jiv h 68 3 = g0 → jiv h 68 5 = g1 → 400 - l3.toInt ≤ R4 → jJ jSgX Dy h → jSm fp_X2_readPlain_r95_c7 h0 h → jX m_X2_readPlain 9 0 0 32 [(0, .ref 95), (1, .int 7), (3, .int l3)] [.int 0] h 0 0 Q := by
  intro l3 g0 g1 h y0 y1 y2 y3 z0 z1 m4 J Sm
  refine x_istoren (lsx9 := [(2, .int 0), (0, .ref 95), (1, .int 7), (3, .int l3)]) rfl rfl rfl ?_
  refine x_aloadn (x := 95) rfl rfl ?_
  refine z_getR (N := 6) (b := 68) 2 0 rfl f_2_30 rfl J rfl 12160 ⟨rfl, rfl⟩ rfl ?_
  refine x_inv (N := m_X9_step) (As := []) (b := 68) (st := []) (dx9 := 2) (mc := 0) (ms := 0) (host := "") 9 rfl t_X9_step ⟨Or.inl q_2_62, i_X9_step.1, i_X9_step.2⟩ ⟨by decide, rfl⟩ (congrArg Prod.fst (J.1.1 68 (9, 6) rfl)) rfl (by decide) rfl rfl ⟨by decide, by decide⟩ (sf_X9_step_r68  hD J z1 z0 (by omega)  (fun h J S1 u2 u3 qu2 qu3 ru2 => ?_))
  have Sm := jSm_tr rfl Sm S1
  have eu2 := (show 0 ≤ u2.toInt ∧ u2.toInt ≤ 3 from qu2 ▸ jrg_f J sg_68_5_6_1_0_1)
  have eu3 := (show 0 ≤ u3.toInt ∧ u3.toInt ≤ 400 from qu3 ▸ jrg_f J sg_68_3_4_1_0_1)
  show jX m_X2_readPlain 9 0 0 40 [(2, .int 0), (0, .ref 95), (1, .int 7), (3, .int l3)] [] _ 0 0 _
  refine z_iinc (x := l3) (lsx9 := fun v4 => [(3, .int v4), (2, .int 0), (0, .ref 95), (1, .int 7)]) rfl rfl rfl jko_1 (by omega) rfl (fun _ => rfl) (fun v4 ev4 => ?_)
  refine x_goto (tgt := 4) rfl rfl ?_
  exact jX.sub (jsb_c rfl (jsb_c rfl (jsb_c rfl (jsb_c rfl jsb_n)))) (k4 0 v4 u3 u2 h (by omega) (jr_of jk_0 (by omega)) (jr_of rfl (by omega)) (jr_of rfl (by omega)) (jr_of rfl (by omega)) (by omega) qu3 qu2 J Sm)
set_option maxRecDepth 100000 in
set_option maxHeartbeats 4000000 in
theorem ct_X2_readPlain_r95_c7_4 {Dy : jH → Prop} {h0 : jH} {Q : Option Value → jH → Prop} (hD : jDk Dy) (hQ : ∀ (v : Int32) hx9, 0 ≤ v.toInt ∧ v.toInt ≤ 1 → jJ jSgX Dy hx9 → jSm fp_X2_readPlain_r95_c7 h0 hx9 → ∀ u0 u1 : Int32, jiv hx9 68 5 = u0 → jiv hx9 68 3 = u1 → (u0.toInt ≠ 3 ∨ u1.toInt ≤ 399) → Q (some (.int v)) hx9) : ∀ r : Nat, ∀ (l2 : Int32) (l3 : Int32) (g0 : Int32) (g1 : Int32) (h : jH), 400 - l3.toInt < (r : Int) → 0 ≤ l2.toInt ∧ l2.toInt ≤ 1 → 0 ≤ l3.toInt ∧ l3.toInt ≤ 400 → 0 ≤ g0.toInt ∧ g0.toInt ≤ 400 → 0 ≤ g1.toInt ∧ g1.toInt ≤ 3 → (g1.toInt ≠ 3 ∨ g0.toInt ≤ 399) → jiv h 68 3 = g0 → jiv h 68 5 = g1 → jJ jSgX Dy h → jSm fp_X2_readPlain_r95_c7 h0 h → jX m_X2_readPlain 9 0 0 4 [(0, .ref 95), (1, .int 7), (2, .int l2), (3, .int l3)] [] h 0 0 Q := by
  intro r
  induction r with
  | zero =>
    intro l2 l3 g0 g1 h hm y0 y1 y2 y3 y4 z0 z1  J Sm
    exfalso
    omega
  | succ r ih =>
    intro l2 l3 g0 g1 h hm y0 y1 y2 y3 y4 z0 z1  J Sm
    refine x_iloadn (x := l3) rfl rfl ?_
    refine x_sipush (v := 400) rfl ks_400 ?_
    refine x_icge (tgt := 46) rfl rfl (ti_ge rfl jk_400 ⟨fun c1 => ?_, fun c1 => ?_⟩)
    ·
      exact jX.sub (jsb_c rfl (jsb_c rfl (jsb_c rfl jsb_n))) (ct_X2_readPlain_r95_c7_46 hD hQ  l2 g0 g1 h (jr_of rfl (by omega)) (jr_of rfl (by omega)) (jr_of rfl (by omega)) (by omega) z0 z1 J Sm)
    ·
      refine x_aloadn (x := 95) rfl rfl ?_
      refine z_getR (N := 6) (b := 68) 2 0 rfl f_2_30 rfl J rfl 12160 ⟨rfl, rfl⟩ rfl ?_
      refine x_ldcS (jstr.getD 9 jstr_0) rfl (List.mem_of_getElem? (i := 9) rfl) rfl rfl ?_
      show jX m_X2_readPlain 9 0 0 17 [(0, .ref 95), (1, .int 7), (2, .int l2), (3, .int l3)] [.ref 14, .ref 68] _ 0 0 _
      refine x_inv (N := m_X9_wordOf) (As := [.ref 14]) (b := 68) (st := []) (dx9 := 4) (mc := 0) (ms := 0) (host := "") 9 rfl t_X9_wordOf ⟨Or.inl q_2_67, i_X9_wordOf.1, i_X9_wordOf.2⟩ ⟨by decide, rfl⟩ (congrArg Prod.fst (J.1.1 68 (9, 6) rfl)) rfl (by decide) rfl rfl ⟨by decide, by decide⟩ (sf_X9_wordOf_r68_r14  hD J  (fun v3 h J S2 => ?_))
      have ev3 := jfull v3
      have Sm := jSm_tr rfl Sm S2
      show jX m_X2_readPlain 9 0 0 20 [(0, .ref 95), (1, .int 7), (2, .int l2), (3, .int l3)] [.int v3] _ 0 0 _
      refine x_ifne (tgt := 46) rfl rfl (ti_ne rfl jk_0 ⟨fun c4 => ?_, fun c4 => ?_⟩)
      ·
        exact jX.sub (jsb_c rfl (jsb_c rfl (jsb_c rfl jsb_n))) (ct_X2_readPlain_r95_c7_46 hD hQ  l2 g0 g1 h (jr_of rfl (by omega)) (jr_of rfl (by omega)) (jr_of rfl (by omega)) (by omega) (jmc S2 rfl z0) (jmc S2 rfl z1) J Sm)
      ·
        refine x_iloadn (x := l2) rfl rfl ?_
        refine x_ifne (tgt := 31) rfl rfl (ti_ne rfl jk_0 ⟨fun c5 => ?_, fun c5 => ?_⟩)
        ·
          refine x_iconst (v := 0) rfl ki_0 ?_
          exact jX.sub (jsb_c rfl (jsb_c rfl (jsb_c rfl jsb_n))) (ct_X2_readPlain_r95_c7_200032 hD hQ ih l3 g0 g1 h (jr_of rfl (by omega)) (jr_of rfl (by omega)) (jr_of rfl (by omega)) (by omega) (jmc S2 rfl z0) (jmc S2 rfl z1) (by omega) J Sm)
        ·
          refine x_iconst (v := 1) rfl ki_1 ?_
          refine x_goto (tgt := 32) rfl rfl ?_
          exact jX.sub (jsb_c rfl (jsb_c rfl (jsb_c rfl jsb_n))) (ct_X2_readPlain_r95_c7_300032 hD hQ ih l3 g0 g1 h (jr_of rfl (by omega)) (jr_of rfl (by omega)) (jr_of rfl (by omega)) (by omega) (jmc S2 rfl z0) (jmc S2 rfl z1) (by omega) J Sm)
set_option maxRecDepth 100000 in
set_option maxHeartbeats 4000000 in
theorem sf_X2_readPlain_r95_c7 {Dy : jH → Prop} {h : jH} {Q : Option Value → jH → Prop} (hD : jDk Dy) (J : jJ jSgX Dy h) {p0 p1 : Int32} (zp0 : jiv h 68 5 = p0) (zp1 : jiv h 68 3 = p1) (rl_p0 : (p0.toInt ≠ 3 ∨ p1.toInt ≤ 399)) (hQ : ∀ (v : Int32) hx9, 0 ≤ v.toInt ∧ v.toInt ≤ 1 → jJ jSgX Dy hx9 → jSm fp_X2_readPlain_r95_c7 h hx9 → ∀ u0 u1 : Int32, jiv hx9 68 5 = u0 → jiv hx9 68 3 = u1 → (u0.toInt ≠ 3 ∨ u1.toInt ≤ 399) → Q (some (.int v)) hx9) : jC m_X2_readPlain 9 0 0 [.ref 95, .int 7] h Q := by
  refine jC.of rfl k_X2_readPlain rfl ?_
  have Sm := jSm_rf fp_X2_readPlain_r95_c7 h
  have ep0 := (show 0 ≤ p0.toInt ∧ p0.toInt ≤ 3 from zp0 ▸ jrg_f J sg_68_5_6_1_0_1)
  have ep1 := (show 0 ≤ p1.toInt ∧ p1.toInt ≤ 400 from zp1 ▸ jrg_f J sg_68_3_4_1_0_1)
  show jX m_X2_readPlain 9 0 0 0 [(0, .ref 95), (1, .int 7)] [] _ 0 0 _
  refine x_iconst (v := 0) rfl ki_0 ?_
  refine x_istoren (lsx9 := [(2, .int 0), (0, .ref 95), (1, .int 7)]) rfl rfl rfl ?_
  refine x_iconst (v := 0) rfl ki_0 ?_
  refine x_istoren (lsx9 := [(3, .int 0), (2, .int 0), (0, .ref 95), (1, .int 7)]) rfl rfl rfl ?_
  exact jX.sub (jsb_c rfl (jsb_c rfl (jsb_c rfl (jsb_c rfl jsb_n)))) (ct_X2_readPlain_r95_c7_4 hD hQ  401 0 0 p1 p0 h (by have := jk_0; omega) (jr_of jk_0 (by omega)) (jr_of jk_0 (by omega)) (jr_of rfl (by omega)) (jr_of rfl (by omega)) (by omega) zp1 zp0 J Sm)
def fp_X2_readTest_r95_c7 : jFp := [(68, 2, 3), (68, 3, 4), (68, 4, 5), (68, 5, 6), (95, 4, 5), (95, 5, 6), (97, 0, 1200)]
set_option maxRecDepth 100000 in
set_option maxHeartbeats 4000000 in
theorem ct_X2_readTest_r95_c7_77 {Dy : jH → Prop} {h0 : jH} {Q : Option Value → jH → Prop} {R4 : Int} (hD : jDk Dy) (hQ : ∀ (v : Int32) hx9, 0 ≤ v.toInt ∧ v.toInt ≤ 1 → jJ jSgX Dy hx9 → jSm fp_X2_readTest_r95_c7 h0 hx9 → ∀ u0 u1 : Int32, jiv hx9 68 5 = u0 → jiv hx9 68 3 = u1 → (u0.toInt ≠ 3 ∨ u1.toInt ≤ 399) → Q (some (.int v)) hx9) (k4 : ∀ (l2 : Int32) (l3 : Int32) (g0 : Int32) (g1 : Int32) (h : jH), 400 - l3.toInt < R4 → (-1) ≤ l2.toInt ∧ l2.toInt ≤ 1199 → 0 ≤ l3.toInt ∧ l3.toInt ≤ 400 → 0 ≤ g0.toInt ∧ g0.toInt ≤ 400 → 0 ≤ g1.toInt ∧ g1.toInt ≤ 3 → (g1.toInt ≠ 3 ∨ g0.toInt ≤ 399) → jiv h 68 3 = g0 → jiv h 68 5 = g1 → jJ jSgX Dy h → jSm fp_X2_readTest_r95_c7 h0 h → jX m_X2_readTest 10 0 0 4 [(0, .ref 95), (1, .int 7), (2, .int l2), (3, .int l3)] [] h 0 0 Q) : ∀ (l2 : Int32) (l3 : Int32) (g0 : Int32) (g1 : Int32) (h : jH), (-1) ≤ l2.toInt ∧ l2.toInt ≤ 1199 → 0 ≤ l3.toInt ∧ l3.toInt ≤ 399 → 0 ≤ g0.toInt ∧ g0.toInt ≤ 400 → 0 ≤ g1.toInt ∧ g1.toInt ≤ 3 → (g1.toInt ≠ 3 ∨ g0.toInt ≤ 399) → jiv h 68 3 = g0 → jiv h 68 5 = g1 → 400 - l3.toInt ≤ R4 → jJ jSgX Dy h → jSm fp_X2_readTest_r95_c7 h0 h → jX m_X2_readTest 10 0 0 77 [(0, .ref 95), (1, .int 7), (2, .int l2), (3, .int l3)] [] h 0 0 Q := by
  intro l2 l3 g0 g1 h y0 y1 y2 y3 y4 z0 z1 m4 J Sm
  refine x_aloadn (x := 95) rfl rfl ?_
  refine x_iloadn (x := l2) rfl rfl ?_
  refine x_inv (N := m_X2_land) (As := [.int l2]) (b := 95) (st := []) (dx9 := 1) (mc := 0) (ms := 0) (host := "") 2 rfl t_X2_land ⟨Or.inl q_2_124, i_X2_land.1, i_X2_land.2⟩ ⟨by decide, rfl⟩ (congrArg Prod.fst (J.1.1 95 (2, 6) rfl)) rfl (by decide) rfl rfl ⟨by decide, by decide⟩ (sf_X2_land_r95 (jr_of rfl (by omega)) hD J  (fun h J S1 => ?_))
  have Sm := jSm_tr rfl Sm S1
  show jX m_X2_readTest 10 0 0 82 [(0, .ref 95), (1, .int 7), (2, .int l2), (3, .int l3)] [] _ 0 0 _
  refine x_aloadn (x := 95) rfl rfl ?_
  refine z_getR (N := 6) (b := 68) 2 0 rfl f_2_30 rfl J rfl 12160 ⟨rfl, rfl⟩ rfl ?_
  refine x_ldcS (jstr.getD 12 jstr_0) rfl (List.mem_of_getElem? (i := 12) rfl) rfl rfl ?_
  show jX m_X2_readTest 10 0 0 88 [(0, .ref 95), (1, .int 7), (2, .int l2), (3, .int l3)] [.ref 17, .ref 68] _ 0 0 _
  refine x_inv (N := m_X9_wordOf) (As := [.ref 17]) (b := 68) (st := []) (dx9 := 4) (mc := 0) (ms := 0) (host := "") 9 rfl t_X9_wordOf ⟨Or.inl q_2_67, i_X9_wordOf.1, i_X9_wordOf.2⟩ ⟨by decide, rfl⟩ (congrArg Prod.fst (J.1.1 68 (9, 6) rfl)) rfl (by decide) rfl rfl ⟨by decide, by decide⟩ (sf_X9_wordOf_r68_r17  hD J  (fun v3 h J S2 => ?_))
  have ev3 := jfull v3
  have Sm := jSm_tr rfl Sm S2
  show jX m_X2_readTest 10 0 0 91 [(0, .ref 95), (1, .int 7), (2, .int l2), (3, .int l3)] [.int v3] _ 0 0 _
  refine x_ifeq (tgt := 96) rfl rfl (ti_eq rfl jk_0 ⟨fun c4 => ?_, fun c4 => ?_⟩)
  ·
    refine x_aloadn (x := 95) rfl rfl ?_
    refine x_bipush (v := 11) rfl kb_11 ?_
    refine x_inv (N := m_X2_leap) (As := [.int 11]) (b := 95) (st := []) (dx9 := 2) (mc := 0) (ms := 0) (host := "") 2 rfl t_X2_leap ⟨Or.inl q_2_129, i_X2_leap.1, i_X2_leap.2⟩ ⟨by decide, rfl⟩ (congrArg Prod.fst (J.1.1 95 (2, 6) rfl)) rfl (by decide) rfl rfl ⟨by decide, by decide⟩ (sf_X2_leap_r95 (jr_of jk_11 (by omega)) hD J  (fun v6 h ev6 J S5 => ?_))
    have Sm := jSm_tr rfl Sm S5
    show jX m_X2_readTest 10 0 0 102 [(0, .ref 95), (1, .int 7), (2, .int l2), (3, .int l3)] [.int v6] _ 0 0 _
    refine x_istoren (lsx9 := [(2, .int v6), (0, .ref 95), (1, .int 7), (3, .int l3)]) rfl rfl rfl ?_
    refine x_aloadn (x := 95) rfl rfl ?_
    refine z_getR (N := 6) (b := 68) 2 0 rfl f_2_30 rfl J rfl 12160 ⟨rfl, rfl⟩ rfl ?_
    refine x_inv (N := m_X9_step) (As := []) (b := 68) (st := []) (dx9 := 2) (mc := 0) (ms := 0) (host := "") 9 rfl t_X9_step ⟨Or.inl q_2_62, i_X9_step.1, i_X9_step.2⟩ ⟨by decide, rfl⟩ (congrArg Prod.fst (J.1.1 68 (9, 6) rfl)) rfl (by decide) rfl rfl ⟨by decide, by decide⟩ (sf_X9_step_r68  hD J (jmc S5 rfl (jmc S2 rfl (jmc S1 rfl z1))) (jmc S5 rfl (jmc S2 rfl (jmc S1 rfl z0))) (by omega)  (fun h J S7 u8 u9 qu8 qu9 ru8 => ?_))
    have Sm := jSm_tr rfl Sm S7
    have eu8 := (show 0 ≤ u8.toInt ∧ u8.toInt ≤ 3 from qu8 ▸ jrg_f J sg_68_5_6_1_0_1)
    have eu9 := (show 0 ≤ u9.toInt ∧ u9.toInt ≤ 400 from qu9 ▸ jrg_f J sg_68_3_4_1_0_1)
    show jX m_X2_readTest 10 0 0 110 [(2, .int v6), (0, .ref 95), (1, .int 7), (3, .int l3)] [] _ 0 0 _
    refine z_iinc (x := l3) (lsx9 := fun v10 => [(3, .int v10), (2, .int v6), (0, .ref 95), (1, .int 7)]) rfl rfl rfl jko_1 (by omega) rfl (fun _ => rfl) (fun v10 ev10 => ?_)
    refine x_goto (tgt := 4) rfl rfl ?_
    exact jX.sub (jsb_c rfl (jsb_c rfl (jsb_c rfl (jsb_c rfl jsb_n)))) (k4 v6 v10 u9 u8 h (by omega) (jr_of rfl (by omega)) (jr_of rfl (by omega)) (jr_of rfl (by omega)) (jr_of rfl (by omega)) (by omega) qu9 qu8 J Sm)
  ·
    refine x_iconst (v := 1) rfl ki_1 ?_
    refine x_zret rfl rfl (by decide) ?_
    exact hQ _ _ (jr_of jk_1 (by omega)) J Sm _ _ (jmc S2 rfl (jmc S1 rfl z1)) (jmc S2 rfl (jmc S1 rfl z0)) (by omega)
set_option maxRecDepth 100000 in
set_option maxHeartbeats 4000000 in
theorem ct_X2_readTest_r95_c7_17 {Dy : jH → Prop} {h0 : jH} {Q : Option Value → jH → Prop} {R4 : Int} (hD : jDk Dy) (hQ : ∀ (v : Int32) hx9, 0 ≤ v.toInt ∧ v.toInt ≤ 1 → jJ jSgX Dy hx9 → jSm fp_X2_readTest_r95_c7 h0 hx9 → ∀ u0 u1 : Int32, jiv hx9 68 5 = u0 → jiv hx9 68 3 = u1 → (u0.toInt ≠ 3 ∨ u1.toInt ≤ 399) → Q (some (.int v)) hx9) (k4 : ∀ (l2 : Int32) (l3 : Int32) (g0 : Int32) (g1 : Int32) (h : jH), 400 - l3.toInt < R4 → (-1) ≤ l2.toInt ∧ l2.toInt ≤ 1199 → 0 ≤ l3.toInt ∧ l3.toInt ≤ 400 → 0 ≤ g0.toInt ∧ g0.toInt ≤ 400 → 0 ≤ g1.toInt ∧ g1.toInt ≤ 3 → (g1.toInt ≠ 3 ∨ g0.toInt ≤ 399) → jiv h 68 3 = g0 → jiv h 68 5 = g1 → jJ jSgX Dy h → jSm fp_X2_readTest_r95_c7 h0 h → jX m_X2_readTest 10 0 0 4 [(0, .ref 95), (1, .int 7), (2, .int l2), (3, .int l3)] [] h 0 0 Q) : ∀ r : Nat, ∀ (l2 : Int32) (l3 : Int32) (l4 : Int32) (l5 : Int32) (g0 : Int32) (g1 : Int32) (h : jH), 400 - l5.toInt < (r : Int) → (-1) ≤ l2.toInt ∧ l2.toInt ≤ 1199 → 0 ≤ l3.toInt ∧ l3.toInt ≤ 399 → (-1) ≤ l4.toInt ∧ l4.toInt ≤ 1199 → 0 ≤ l5.toInt ∧ l5.toInt ≤ 400 → 0 ≤ g0.toInt ∧ g0.toInt ≤ 400 → 0 ≤ g1.toInt ∧ g1.toInt ≤ 3 → (g1.toInt ≠ 3 ∨ g0.toInt ≤ 399) → jiv h 68 3 = g0 → jiv h 68 5 = g1 → 400 - l3.toInt ≤ R4 → jJ jSgX Dy h → jSm fp_X2_readTest_r95_c7 h0 h → jX m_X2_readTest 10 0 0 17 [(0, .ref 95), (1, .int 7), (2, .int l2), (3, .int l3), (4, .int l4), (5, .int l5)] [] h 0 0 Q := by
  intro r
  induction r with
  | zero =>
    intro l2 l3 l4 l5 g0 g1 h hm y0 y1 y2 y3 y4 y5 y6 z0 z1 m4 J Sm
    exfalso
    omega
  | succ r ih =>
    intro l2 l3 l4 l5 g0 g1 h hm y0 y1 y2 y3 y4 y5 y6 z0 z1 m4 J Sm
    refine x_iload (x := l5) rfl rfl ?_
    refine x_sipush (v := 400) rfl ks_400 ?_
    refine x_icge (tgt := 77) rfl rfl (ti_ge rfl jk_400 ⟨fun c1 => ?_, fun c1 => ?_⟩)
    ·
      exact jX.sub (jsb_c rfl (jsb_c rfl (jsb_c rfl (jsb_c rfl jsb_n)))) (ct_X2_readTest_r95_c7_77 hD hQ k4 l2 l3 g0 g1 h (jr_of rfl (by omega)) (jr_of rfl (by omega)) (jr_of rfl (by omega)) (jr_of rfl (by omega)) (by omega) z0 z1 (by omega) J Sm)
    ·
      refine x_aloadn (x := 95) rfl rfl ?_
      refine x_iloadn (x := 7) rfl rfl ?_
      refine x_inv (N := m_X2_readPlain) (As := [.int 7]) (b := 95) (st := []) (dx9 := 9) (mc := 0) (ms := 0) (host := "") 2 rfl t_X2_readPlain ⟨Or.inl q_2_121, i_X2_readPlain.1, i_X2_readPlain.2⟩ ⟨by decide, rfl⟩ (congrArg Prod.fst (J.1.1 95 (2, 6) rfl)) rfl (by decide) rfl rfl ⟨by decide, by decide⟩ (sf_X2_readPlain_r95_c7  hD J z1 z0 (by omega)  (fun v5 h ev5 J S2 u3 u4 qu3 qu4 ru3 => ?_))
      have Sm := jSm_tr rfl Sm S2
      have eu3 := (show 0 ≤ u3.toInt ∧ u3.toInt ≤ 3 from qu3 ▸ jrg_f J sg_68_5_6_1_0_1)
      have eu4 := (show 0 ≤ u4.toInt ∧ u4.toInt ≤ 400 from qu4 ▸ jrg_f J sg_68_3_4_1_0_1)
      show jX m_X2_readTest 10 0 0 30 [(0, .ref 95), (1, .int 7), (2, .int l2), (3, .int l3), (4, .int l4), (5, .int l5)] [.int v5] _ 0 0 _
      refine x_ifne (tgt := 35) rfl rfl (ti_ne rfl jk_0 ⟨fun c6 => ?_, fun c6 => ?_⟩)
      ·
        refine x_aloadn (x := 95) rfl rfl ?_
        refine x_iload (x := l4) rfl rfl ?_
        refine x_inv (N := m_X2_land) (As := [.int l4]) (b := 95) (st := []) (dx9 := 1) (mc := 0) (ms := 0) (host := "") 2 rfl t_X2_land ⟨Or.inl q_2_124, i_X2_land.1, i_X2_land.2⟩ ⟨by decide, rfl⟩ (congrArg Prod.fst (J.1.1 95 (2, 6) rfl)) rfl (by decide) rfl rfl ⟨by decide, by decide⟩ (sf_X2_land_r95 (jr_of rfl (by omega)) hD J  (fun h J S7 => ?_))
        have Sm := jSm_tr rfl Sm S7
        show jX m_X2_readTest 10 0 0 41 [(0, .ref 95), (1, .int 7), (2, .int l2), (3, .int l3), (4, .int l4), (5, .int l5)] [] _ 0 0 _
        refine x_aloadn (x := 95) rfl rfl ?_
        refine z_getR (N := 6) (b := 68) 2 0 rfl f_2_30 rfl J rfl 12160 ⟨rfl, rfl⟩ rfl ?_
        refine x_ldcS (jstr.getD 11 jstr_0) rfl (List.mem_of_getElem? (i := 11) rfl) rfl rfl ?_
        show jX m_X2_readTest 10 0 0 47 [(0, .ref 95), (1, .int 7), (2, .int l2), (3, .int l3), (4, .int l4), (5, .int l5)] [.ref 16, .ref 68] _ 0 0 _
        refine x_inv (N := m_X9_wordOf) (As := [.ref 16]) (b := 68) (st := []) (dx9 := 4) (mc := 0) (ms := 0) (host := "") 9 rfl t_X9_wordOf ⟨Or.inl q_2_67, i_X9_wordOf.1, i_X9_wordOf.2⟩ ⟨by decide, rfl⟩ (congrArg Prod.fst (J.1.1 68 (9, 6) rfl)) rfl (by decide) rfl rfl ⟨by decide, by decide⟩ (sf_X9_wordOf_r68_r16  hD J  (fun v9 h J S8 => ?_))
        have ev9 := jfull v9
        have Sm := jSm_tr rfl Sm S8
        show jX m_X2_readTest 10 0 0 50 [(0, .ref 95), (1, .int 7), (2, .int l2), (3, .int l3), (4, .int l4), (5, .int l5)] [.int v9] _ 0 0 _
        refine x_ifeq (tgt := 56) rfl rfl (ti_eq rfl jk_0 ⟨fun c10 => ?_, fun c10 => ?_⟩)
        ·
          refine x_aloadn (x := 95) rfl rfl ?_
          refine x_bipush (v := 12) rfl kb_12 ?_
          refine x_inv (N := m_X2_leap) (As := [.int 12]) (b := 95) (st := []) (dx9 := 2) (mc := 0) (ms := 0) (host := "") 2 rfl t_X2_leap ⟨Or.inl q_2_129, i_X2_leap.1, i_X2_leap.2⟩ ⟨by decide, rfl⟩ (congrArg Prod.fst (J.1.1 95 (2, 6) rfl)) rfl (by decide) rfl rfl ⟨by decide, by decide⟩ (sf_X2_leap_r95 (jr_of jk_12 (by omega)) hD J  (fun v12 h ev12 J S11 => ?_))
          have Sm := jSm_tr rfl Sm S11
          show jX m_X2_readTest 10 0 0 62 [(0, .ref 95), (1, .int 7), (2, .int l2), (3, .int l3), (4, .int l4), (5, .int l5)] [.int v12] _ 0 0 _
          refine x_istore (lsx9 := [(4, .int v12), (0, .ref 95), (1, .int 7), (2, .int l2), (3, .int l3), (5, .int l5)]) rfl rfl rfl ?_
          refine x_aloadn (x := 95) rfl rfl ?_
          refine z_getR (N := 6) (b := 68) 2 0 rfl f_2_30 rfl J rfl 12160 ⟨rfl, rfl⟩ rfl ?_
          refine x_inv (N := m_X9_step) (As := []) (b := 68) (st := []) (dx9 := 2) (mc := 0) (ms := 0) (host := "") 9 rfl t_X9_step ⟨Or.inl q_2_62, i_X9_step.1, i_X9_step.2⟩ ⟨by decide, rfl⟩ (congrArg Prod.fst (J.1.1 68 (9, 6) rfl)) rfl (by decide) rfl rfl ⟨by decide, by decide⟩ (sf_X9_step_r68  hD J (jmc S11 rfl (jmc S8 rfl (jmc S7 rfl qu3))) (jmc S11 rfl (jmc S8 rfl (jmc S7 rfl qu4))) (by omega)  (fun h J S13 u14 u15 qu14 qu15 ru14 => ?_))
          have Sm := jSm_tr rfl Sm S13
          have eu14 := (show 0 ≤ u14.toInt ∧ u14.toInt ≤ 3 from qu14 ▸ jrg_f J sg_68_5_6_1_0_1)
          have eu15 := (show 0 ≤ u15.toInt ∧ u15.toInt ≤ 400 from qu15 ▸ jrg_f J sg_68_3_4_1_0_1)
          show jX m_X2_readTest 10 0 0 71 [(4, .int v12), (0, .ref 95), (1, .int 7), (2, .int l2), (3, .int l3), (5, .int l5)] [] _ 0 0 _
          refine z_iinc (x := l5) (lsx9 := fun v16 => [(5, .int v16), (4, .int v12), (0, .ref 95), (1, .int 7), (2, .int l2), (3, .int l3)]) rfl rfl rfl jko_1 (by omega) rfl (fun _ => rfl) (fun v16 ev16 => ?_)
          refine x_goto (tgt := 17) rfl rfl ?_
          exact jX.sub (jsb_c rfl (jsb_c rfl (jsb_c rfl (jsb_c rfl (jsb_c rfl (jsb_c rfl jsb_n)))))) (ih l2 l3 v12 v16 u15 u14 h (by omega) (jr_of rfl (by omega)) (jr_of rfl (by omega)) (jr_of rfl (by omega)) (jr_of rfl (by omega)) (jr_of rfl (by omega)) (jr_of rfl (by omega)) (by omega) qu15 qu14 (by omega) J Sm)
        ·
          refine x_goto (tgt := 77) rfl rfl ?_
          exact jX.sub (jsb_c rfl (jsb_c rfl (jsb_c rfl (jsb_c rfl jsb_n)))) (ct_X2_readTest_r95_c7_77 hD hQ k4 l2 l3 u4 u3 h (jr_of rfl (by omega)) (jr_of rfl (by omega)) (jr_of rfl (by omega)) (jr_of rfl (by omega)) (by omega) (jmc S8 rfl (jmc S7 rfl qu4)) (jmc S8 rfl (jmc S7 rfl qu3)) (by omega) J Sm)
      ·
        refine x_iconst (v := 0) rfl ki_0 ?_
        refine x_zret rfl rfl (by decide) ?_
        exact hQ _ _ (jr_of jk_0 (by omega)) J Sm _ _ qu3 qu4 (by omega)
set_option maxRecDepth 100000 in
set_option maxHeartbeats 4000000 in
theorem ct_X2_readTest_r95_c7_4 {Dy : jH → Prop} {h0 : jH} {Q : Option Value → jH → Prop} (hD : jDk Dy) (hQ : ∀ (v : Int32) hx9, 0 ≤ v.toInt ∧ v.toInt ≤ 1 → jJ jSgX Dy hx9 → jSm fp_X2_readTest_r95_c7 h0 hx9 → ∀ u0 u1 : Int32, jiv hx9 68 5 = u0 → jiv hx9 68 3 = u1 → (u0.toInt ≠ 3 ∨ u1.toInt ≤ 399) → Q (some (.int v)) hx9) : ∀ r : Nat, ∀ (l2 : Int32) (l3 : Int32) (g0 : Int32) (g1 : Int32) (h : jH), 400 - l3.toInt < (r : Int) → (-1) ≤ l2.toInt ∧ l2.toInt ≤ 1199 → 0 ≤ l3.toInt ∧ l3.toInt ≤ 400 → 0 ≤ g0.toInt ∧ g0.toInt ≤ 400 → 0 ≤ g1.toInt ∧ g1.toInt ≤ 3 → (g1.toInt ≠ 3 ∨ g0.toInt ≤ 399) → jiv h 68 3 = g0 → jiv h 68 5 = g1 → jJ jSgX Dy h → jSm fp_X2_readTest_r95_c7 h0 h → jX m_X2_readTest 10 0 0 4 [(0, .ref 95), (1, .int 7), (2, .int l2), (3, .int l3)] [] h 0 0 Q := by
  intro r
  induction r with
  | zero =>
    intro l2 l3 g0 g1 h hm y0 y1 y2 y3 y4 z0 z1  J Sm
    exfalso
    omega
  | succ r ih =>
    intro l2 l3 g0 g1 h hm y0 y1 y2 y3 y4 z0 z1  J Sm
    refine x_iloadn (x := l3) rfl rfl ?_
    refine x_sipush (v := 400) rfl ks_400 ?_
    refine x_icge (tgt := 116) rfl rfl (ti_ge rfl jk_400 ⟨fun c1 => ?_, fun c1 => ?_⟩)
    ·
      refine x_aloadn (x := 95) rfl rfl ?_
      refine z_getR (N := 6) (b := 68) 2 0 rfl f_2_30 rfl J rfl 12160 ⟨rfl, rfl⟩ rfl ?_
      refine x_inv (N := m_X9_blame) (As := []) (b := 68) (st := []) (dx9 := 9) (mc := 0) (ms := 0) (host := "") 9 rfl t_X9_blame ⟨Or.inl q_2_59, i_X9_blame.1, i_X9_blame.2⟩ ⟨by decide, rfl⟩ (congrArg Prod.fst (J.1.1 68 (9, 6) rfl)) rfl (by decide) rfl rfl ⟨by decide, by decide⟩ (jC.of rfl k_X9_blame rfl ?_)
      show jX m_X9_blame 9 0 0 0 [(0, .ref 68)] [] _ 0 0 _
      refine x_aloadn (x := 68) rfl rfl ?_
      refine x_aloadn (x := 68) rfl rfl ?_
      refine z_getM (N := 6) (v := g0) 9 3 rfl f_9_22 rfl J rfl z0 ?_
      refine z_putI (N := 6) (w := g0.toInt) 9 2 rfl f_9_19 rfl (jfin_no TX9 RX9 6 rfl rfl) hD J Sm rfl rfl rfl (pw_68_2 (by omega)) rfl (fun h w2 J Sm => ?_)
      refine x_iconst (v := 0) rfl ki_0 ?_
      refine x_zret rfl rfl (by decide) ?_
      show jX m_X2_readTest 10 0 0 123 [(0, .ref 95), (1, .int 7), (2, .int l2), (3, .int l3)] [.int 0] _ 0 0 _
      refine x_zret rfl rfl (by decide) ?_
      exact hQ _ _ (jr_of jk_0 (by omega)) J Sm _ _ (jmo w2 rfl z1) (jmo w2 rfl z0) (by omega)
    ·
      refine x_iconst (v := (-1)) rfl ki_m1 ?_
      refine x_istore (lsx9 := [(4, .int (-1)), (0, .ref 95), (1, .int 7), (2, .int l2), (3, .int l3)]) rfl rfl rfl ?_
      refine x_iconst (v := 0) rfl ki_0 ?_
      refine x_istore (lsx9 := [(5, .int 0), (4, .int (-1)), (0, .ref 95), (1, .int 7), (2, .int l2), (3, .int l3)]) rfl rfl rfl ?_
      exact jX.sub (jsb_c rfl (jsb_c rfl (jsb_c rfl (jsb_c rfl (jsb_c rfl (jsb_c rfl jsb_n)))))) (ct_X2_readTest_r95_c7_17 hD hQ ih 401 l2 l3 (-1) 0 g0 g1 h (by have := jk_0; omega) (jr_of rfl (by omega)) (jr_of rfl (by omega)) (jr_of jk_m1 (by omega)) (jr_of jk_0 (by omega)) (jr_of rfl (by omega)) (jr_of rfl (by omega)) (by omega) z0 z1 (by omega) J Sm)
set_option maxRecDepth 100000 in
set_option maxHeartbeats 4000000 in
theorem sf_X2_readTest_r95_c7 {Dy : jH → Prop} {h : jH} {Q : Option Value → jH → Prop} (hD : jDk Dy) (J : jJ jSgX Dy h) {p0 p1 : Int32} (zp0 : jiv h 68 5 = p0) (zp1 : jiv h 68 3 = p1) (rl_p0 : (p0.toInt ≠ 3 ∨ p1.toInt ≤ 399)) (hQ : ∀ (v : Int32) hx9, 0 ≤ v.toInt ∧ v.toInt ≤ 1 → jJ jSgX Dy hx9 → jSm fp_X2_readTest_r95_c7 h hx9 → ∀ u0 u1 : Int32, jiv hx9 68 5 = u0 → jiv hx9 68 3 = u1 → (u0.toInt ≠ 3 ∨ u1.toInt ≤ 399) → Q (some (.int v)) hx9) : jC m_X2_readTest 10 0 0 [.ref 95, .int 7] h Q := by
  refine jC.of rfl k_X2_readTest rfl ?_
  have Sm := jSm_rf fp_X2_readTest_r95_c7 h
  have ep0 := (show 0 ≤ p0.toInt ∧ p0.toInt ≤ 3 from zp0 ▸ jrg_f J sg_68_5_6_1_0_1)
  have ep1 := (show 0 ≤ p1.toInt ∧ p1.toInt ≤ 400 from zp1 ▸ jrg_f J sg_68_3_4_1_0_1)
  show jX m_X2_readTest 10 0 0 0 [(0, .ref 95), (1, .int 7)] [] _ 0 0 _
  refine x_iconst (v := (-1)) rfl ki_m1 ?_
  refine x_istoren (lsx9 := [(2, .int (-1)), (0, .ref 95), (1, .int 7)]) rfl rfl rfl ?_
  refine x_iconst (v := 0) rfl ki_0 ?_
  refine x_istoren (lsx9 := [(3, .int 0), (2, .int (-1)), (0, .ref 95), (1, .int 7)]) rfl rfl rfl ?_
  exact jX.sub (jsb_c rfl (jsb_c rfl (jsb_c rfl (jsb_c rfl jsb_n)))) (ct_X2_readTest_r95_c7_4 hD hQ  401 (-1) 0 p1 p0 h (by have := jk_0; omega) (jr_of jk_m1 (by omega)) (jr_of jk_0 (by omega)) (jr_of rfl (by omega)) (jr_of rfl (by omega)) (by omega) zp1 zp0 J Sm)
def fp_X2_readPlain_r95_c6 : jFp := [(68, 2, 3), (68, 3, 4), (68, 4, 5), (68, 5, 6), (95, 4, 5), (95, 5, 6), (97, 0, 1200)]
set_option maxRecDepth 100000 in
set_option maxHeartbeats 4000000 in
theorem ct_X2_readPlain_r95_c6_239 {Dy : jH → Prop} {h0 : jH} {Q : Option Value → jH → Prop} (hD : jDk Dy) (hQ : ∀ (v : Int32) hx9, 0 ≤ v.toInt ∧ v.toInt ≤ 1 → jJ jSgX Dy hx9 → jSm fp_X2_readPlain_r95_c6 h0 hx9 → ∀ u0 u1 : Int32, jiv hx9 68 5 = u0 → jiv hx9 68 3 = u1 → (u0.toInt ≠ 3 ∨ u1.toInt ≤ 399) → Q (some (.int v)) hx9) : ∀ (g0 : Int32) (g1 : Int32) (h : jH), 0 ≤ g0.toInt ∧ g0.toInt ≤ 400 → 0 ≤ g1.toInt ∧ g1.toInt ≤ 3 → (g1.toInt ≠ 3 ∨ g0.toInt ≤ 399) → jiv h 68 3 = g0 → jiv h 68 5 = g1 → jJ jSgX Dy h → jSm fp_X2_readPlain_r95_c6 h0 h → jX m_X2_readPlain 11 0 0 239 [] [] h 0 0 Q := by
  intro g0 g1 h y0 y1 y2 z0 z1  J Sm
  refine x_iconst (v := 1) rfl ki_1 ?_
  refine x_zret rfl rfl (by decide) ?_
  exact hQ _ _ (jr_of jk_1 (by omega)) J Sm _ _ z1 z0 (by omega)
set_option maxRecDepth 100000 in
set_option maxHeartbeats 4000000 in
theorem ct_X2_readPlain_r95_c6_229 {Dy : jH → Prop} {h0 : jH} {Q : Option Value → jH → Prop} (hD : jDk Dy) (hQ : ∀ (v : Int32) hx9, 0 ≤ v.toInt ∧ v.toInt ≤ 1 → jJ jSgX Dy hx9 → jSm fp_X2_readPlain_r95_c6 h0 hx9 → ∀ u0 u1 : Int32, jiv hx9 68 5 = u0 → jiv hx9 68 3 = u1 → (u0.toInt ≠ 3 ∨ u1.toInt ≤ 399) → Q (some (.int v)) hx9) : ∀ (l2 : Int32) (g0 : Int32) (g1 : Int32) (h : jH), 0 ≤ l2.toInt ∧ l2.toInt ≤ 1 → 0 ≤ g0.toInt ∧ g0.toInt ≤ 400 → 0 ≤ g1.toInt ∧ g1.toInt ≤ 3 → (g1.toInt ≠ 3 ∨ g0.toInt ≤ 399) → jiv h 68 3 = g0 → jiv h 68 5 = g1 → jJ jSgX Dy h → jSm fp_X2_readPlain_r95_c6 h0 h → jX m_X2_readPlain 11 0 0 229 [(0, .ref 95), (2, .int l2)] [] h 0 0 Q := by
  intro l2 g0 g1 h y0 y1 y2 y3 z0 z1  J Sm
  refine x_iloadn (x := l2) rfl rfl ?_
  refine x_ifeq (tgt := 239) rfl rfl (ti_eq rfl jk_0 ⟨fun c1 => ?_, fun c1 => ?_⟩)
  ·
    exact jX.sub jsb_n (ct_X2_readPlain_r95_c6_239 hD hQ  g0 g1 h (jr_of rfl (by omega)) (jr_of rfl (by omega)) (by omega) z0 z1 J Sm)
  ·
    refine x_aloadn (x := 95) rfl rfl ?_
    refine x_bipush (v := 10) rfl kb_10 ?_
    refine x_inv (N := m_X2_emit) (As := [.int 10]) (b := 95) (st := []) (dx9 := 1) (mc := 0) (ms := 0) (host := "") 2 rfl t_X2_emit ⟨Or.inl q_2_89, i_X2_emit.1, i_X2_emit.2⟩ ⟨by decide, rfl⟩ (congrArg Prod.fst (J.1.1 95 (2, 6) rfl)) rfl (by decide) rfl rfl ⟨by decide, by decide⟩ (sf_X2_emit_r95  hD J  (fun h J S2 => ?_))
    have Sm := jSm_tr rfl Sm S2
    show jX m_X2_readPlain 11 0 0 239 [(0, .ref 95), (2, .int l2)] [] _ 0 0 _
    exact jX.sub jsb_n (ct_X2_readPlain_r95_c6_239 hD hQ  g0 g1 h (jr_of rfl (by omega)) (jr_of rfl (by omega)) (by omega) (jmc S2 rfl z0) (jmc S2 rfl z1) J Sm)
set_option maxRecDepth 100000 in
set_option maxHeartbeats 4000000 in
theorem ct_X2_readPlain_r95_c6_100190 {Dy : jH → Prop} {h0 : jH} {Q : Option Value → jH → Prop} (hD : jDk Dy) (hQ : ∀ (v : Int32) hx9, 0 ≤ v.toInt ∧ v.toInt ≤ 1 → jJ jSgX Dy hx9 → jSm fp_X2_readPlain_r95_c6 h0 hx9 → ∀ u0 u1 : Int32, jiv hx9 68 5 = u0 → jiv hx9 68 3 = u1 → (u0.toInt ≠ 3 ∨ u1.toInt ≤ 399) → Q (some (.int v)) hx9) : ∀ (l2 : Int32) (g0 : Int32) (g1 : Int32) (h : jH), 0 ≤ l2.toInt ∧ l2.toInt ≤ 1 → 0 ≤ g0.toInt ∧ g0.toInt ≤ 400 → 0 ≤ g1.toInt ∧ g1.toInt ≤ 3 → (g1.toInt ≠ 3 ∨ g0.toInt ≤ 399) → jiv h 68 3 = g0 → jiv h 68 5 = g1 → jJ jSgX Dy h → jSm fp_X2_readPlain_r95_c6 h0 h → jX m_X2_readPlain 11 0 0 190 [(0, .ref 95), (1, .int 6), (2, .int l2)] [.int (-1)] h 0 0 Q := by
  intro l2 g0 g1 h y0 y1 y2 y3 z0 z1  J Sm
  refine x_istore (lsx9 := [(4, .int (-1)), (0, .ref 95), (1, .int 6), (2, .int l2)]) rfl rfl rfl ?_
  refine x_iload (x := (-1)) rfl rfl ?_
  refine x_iconst (v := (-1)) rfl ki_m1 ?_
  refine x_icne (tgt := 206) rfl rfl (ti_ne jk_m1 jk_m1 (bn_f (by omega) ?_))
  refine x_aloadn (x := 95) rfl rfl ?_
  refine z_getR (N := 6) (b := 68) 2 0 rfl f_2_30 rfl J rfl 12160 ⟨rfl, rfl⟩ rfl ?_
  refine x_inv (N := m_X9_blame) (As := []) (b := 68) (st := []) (dx9 := 10) (mc := 0) (ms := 0) (host := "") 9 rfl t_X9_blame ⟨Or.inl q_2_59, i_X9_blame.1, i_X9_blame.2⟩ ⟨by decide, rfl⟩ (congrArg Prod.fst (J.1.1 68 (9, 6) rfl)) rfl (by decide) rfl rfl ⟨by decide, by decide⟩ (jC.of rfl k_X9_blame rfl ?_)
  show jX m_X9_blame 10 0 0 0 [(0, .ref 68)] [] _ 0 0 _
  refine x_aloadn (x := 68) rfl rfl ?_
  refine x_aloadn (x := 68) rfl rfl ?_
  refine z_getM (N := 6) (v := g0) 9 3 rfl f_9_22 rfl J rfl z0 ?_
  refine z_putI (N := 6) (w := g0.toInt) 9 2 rfl f_9_19 rfl (jfin_no TX9 RX9 6 rfl rfl) hD J Sm rfl rfl rfl (pw_68_2 (by omega)) rfl (fun h w1 J Sm => ?_)
  refine x_iconst (v := 0) rfl ki_0 ?_
  refine x_zret rfl rfl (by decide) ?_
  show jX m_X2_readPlain 11 0 0 205 [(4, .int (-1)), (0, .ref 95), (1, .int 6), (2, .int l2)] [.int 0] _ 0 0 _
  refine x_zret rfl rfl (by decide) ?_
  exact hQ _ _ (jr_of jk_0 (by omega)) J Sm _ _ (jmo w1 rfl z1) (jmo w1 rfl z0) (by omega)
set_option maxRecDepth 100000 in
set_option maxHeartbeats 4000000 in
theorem ct_X2_readPlain_r95_c6_190 {Dy : jH → Prop} {h0 : jH} {Q : Option Value → jH → Prop} (hD : jDk Dy) (hQ : ∀ (v : Int32) hx9, 0 ≤ v.toInt ∧ v.toInt ≤ 1 → jJ jSgX Dy hx9 → jSm fp_X2_readPlain_r95_c6 h0 hx9 → ∀ u0 u1 : Int32, jiv hx9 68 5 = u0 → jiv hx9 68 3 = u1 → (u0.toInt ≠ 3 ∨ u1.toInt ≤ 399) → Q (some (.int v)) hx9) : ∀ (l2 : Int32) (g0 : Int32) (g1 : Int32) (h : jH), 0 ≤ l2.toInt ∧ l2.toInt ≤ 1 → 0 ≤ g0.toInt ∧ g0.toInt ≤ 400 → 0 ≤ g1.toInt ∧ g1.toInt ≤ 3 → (g1.toInt ≠ 3 ∨ g0.toInt ≤ 399) → jiv h 68 3 = g0 → jiv h 68 5 = g1 → jJ jSgX Dy h → jSm fp_X2_readPlain_r95_c6 h0 h → jX m_X2_readPlain 11 0 0 190 [(0, .ref 95), (1, .int 6), (2, .int l2)] [.int 9] h 0 0 Q := by
  intro l2 g0 g1 h y0 y1 y2 y3 z0 z1  J Sm
  refine x_istore (lsx9 := [(4, .int 9), (0, .ref 95), (1, .int 6), (2, .int l2)]) rfl rfl rfl ?_
  refine x_iload (x := 9) rfl rfl ?_
  refine x_iconst (v := (-1)) rfl ki_m1 ?_
  refine x_icne (tgt := 206) rfl rfl (ti_ne jk_9 jk_m1 (bn_t (by omega) ?_))
  refine x_aloadn (x := 95) rfl rfl ?_
  refine z_getR (N := 6) (b := 68) 2 0 rfl f_2_30 rfl J rfl 12160 ⟨rfl, rfl⟩ rfl ?_
  refine x_inv (N := m_X9_step) (As := []) (b := 68) (st := []) (dx9 := 2) (mc := 0) (ms := 0) (host := "") 9 rfl t_X9_step ⟨Or.inl q_2_62, i_X9_step.1, i_X9_step.2⟩ ⟨by decide, rfl⟩ (congrArg Prod.fst (J.1.1 68 (9, 6) rfl)) rfl (by decide) rfl rfl ⟨by decide, by decide⟩ (sf_X9_step_r68  hD J z1 z0 (by omega)  (fun h J S1 u2 u3 qu2 qu3 ru2 => ?_))
  have Sm := jSm_tr rfl Sm S1
  have eu2 := (show 0 ≤ u2.toInt ∧ u2.toInt ≤ 3 from qu2 ▸ jrg_f J sg_68_5_6_1_0_1)
  have eu3 := (show 0 ≤ u3.toInt ∧ u3.toInt ≤ 400 from qu3 ▸ jrg_f J sg_68_3_4_1_0_1)
  show jX m_X2_readPlain 11 0 0 213 [(4, .int 9), (0, .ref 95), (1, .int 6), (2, .int l2)] [] _ 0 0 _
  refine x_aloadn (x := 95) rfl rfl ?_
  refine x_iloadn (x := 6) rfl rfl ?_
  refine x_inv (N := m_X2_readSum) (As := [.int 6]) (b := 95) (st := []) (dx9 := 10) (mc := 0) (ms := 0) (host := "") 2 rfl t_X2_readSum ⟨Or.inl q_2_86, i_X2_readSum.1, i_X2_readSum.2⟩ ⟨by decide, rfl⟩ (congrArg Prod.fst (J.1.1 95 (2, 6) rfl)) rfl (by decide) rfl rfl ⟨by decide, by decide⟩ (sf_X2_readSum_r95_c6  hD J qu2 qu3 (by omega)  (fun v7 h ev7 J S4 u5 u6 qu5 qu6 ru5 => ?_))
  have Sm := jSm_tr rfl Sm S4
  have eu5 := (show 0 ≤ u5.toInt ∧ u5.toInt ≤ 3 from qu5 ▸ jrg_f J sg_68_5_6_1_0_1)
  have eu6 := (show 0 ≤ u6.toInt ∧ u6.toInt ≤ 400 from qu6 ▸ jrg_f J sg_68_3_4_1_0_1)
  show jX m_X2_readPlain 11 0 0 218 [(4, .int 9), (0, .ref 95), (1, .int 6), (2, .int l2)] [.int v7] _ 0 0 _
  refine x_ifne (tgt := 223) rfl rfl (ti_ne rfl jk_0 ⟨fun c8 => ?_, fun c8 => ?_⟩)
  ·
    refine x_aloadn (x := 95) rfl rfl ?_
    refine x_iload (x := 9) rfl rfl ?_
    refine x_inv (N := m_X2_emit) (As := [.int 9]) (b := 95) (st := []) (dx9 := 1) (mc := 0) (ms := 0) (host := "") 2 rfl t_X2_emit ⟨Or.inl q_2_89, i_X2_emit.1, i_X2_emit.2⟩ ⟨by decide, rfl⟩ (congrArg Prod.fst (J.1.1 95 (2, 6) rfl)) rfl (by decide) rfl rfl ⟨by decide, by decide⟩ (sf_X2_emit_r95  hD J  (fun h J S9 => ?_))
    have Sm := jSm_tr rfl Sm S9
    show jX m_X2_readPlain 11 0 0 229 [(4, .int 9), (0, .ref 95), (1, .int 6), (2, .int l2)] [] _ 0 0 _
    exact jX.sub (jsb_c rfl (jsb_c rfl jsb_n)) (ct_X2_readPlain_r95_c6_229 hD hQ  l2 u6 u5 h (jr_of rfl (by omega)) (jr_of rfl (by omega)) (jr_of rfl (by omega)) (by omega) (jmc S9 rfl qu6) (jmc S9 rfl qu5) J Sm)
  ·
    refine x_iconst (v := 0) rfl ki_0 ?_
    refine x_zret rfl rfl (by decide) ?_
    exact hQ _ _ (jr_of jk_0 (by omega)) J Sm _ _ qu5 qu6 (by omega)
set_option maxRecDepth 100000 in
set_option maxHeartbeats 4000000 in
theorem ct_X2_readPlain_r95_c6_1000190 {Dy : jH → Prop} {h0 : jH} {Q : Option Value → jH → Prop} (hD : jDk Dy) (hQ : ∀ (v : Int32) hx9, 0 ≤ v.toInt ∧ v.toInt ≤ 1 → jJ jSgX Dy hx9 → jSm fp_X2_readPlain_r95_c6 h0 hx9 → ∀ u0 u1 : Int32, jiv hx9 68 5 = u0 → jiv hx9 68 3 = u1 → (u0.toInt ≠ 3 ∨ u1.toInt ≤ 399) → Q (some (.int v)) hx9) : ∀ (l2 : Int32) (g0 : Int32) (g1 : Int32) (h : jH), 0 ≤ l2.toInt ∧ l2.toInt ≤ 1 → 0 ≤ g0.toInt ∧ g0.toInt ≤ 400 → 0 ≤ g1.toInt ∧ g1.toInt ≤ 3 → (g1.toInt ≠ 3 ∨ g0.toInt ≤ 399) → jiv h 68 3 = g0 → jiv h 68 5 = g1 → jJ jSgX Dy h → jSm fp_X2_readPlain_r95_c6 h0 h → jX m_X2_readPlain 11 0 0 190 [(0, .ref 95), (1, .int 6), (2, .int l2)] [.int 8] h 0 0 Q := by
  intro l2 g0 g1 h y0 y1 y2 y3 z0 z1  J Sm
  refine x_istore (lsx9 := [(4, .int 8), (0, .ref 95), (1, .int 6), (2, .int l2)]) rfl rfl rfl ?_
  refine x_iload (x := 8) rfl rfl ?_
  refine x_iconst (v := (-1)) rfl ki_m1 ?_
  refine x_icne (tgt := 206) rfl rfl (ti_ne jk_8 jk_m1 (bn_t (by omega) ?_))
  refine x_aloadn (x := 95) rfl rfl ?_
  refine z_getR (N := 6) (b := 68) 2 0 rfl f_2_30 rfl J rfl 12160 ⟨rfl, rfl⟩ rfl ?_
  refine x_inv (N := m_X9_step) (As := []) (b := 68) (st := []) (dx9 := 2) (mc := 0) (ms := 0) (host := "") 9 rfl t_X9_step ⟨Or.inl q_2_62, i_X9_step.1, i_X9_step.2⟩ ⟨by decide, rfl⟩ (congrArg Prod.fst (J.1.1 68 (9, 6) rfl)) rfl (by decide) rfl rfl ⟨by decide, by decide⟩ (sf_X9_step_r68  hD J z1 z0 (by omega)  (fun h J S1 u2 u3 qu2 qu3 ru2 => ?_))
  have Sm := jSm_tr rfl Sm S1
  have eu2 := (show 0 ≤ u2.toInt ∧ u2.toInt ≤ 3 from qu2 ▸ jrg_f J sg_68_5_6_1_0_1)
  have eu3 := (show 0 ≤ u3.toInt ∧ u3.toInt ≤ 400 from qu3 ▸ jrg_f J sg_68_3_4_1_0_1)
  show jX m_X2_readPlain 11 0 0 213 [(4, .int 8), (0, .ref 95), (1, .int 6), (2, .int l2)] [] _ 0 0 _
  refine x_aloadn (x := 95) rfl rfl ?_
  refine x_iloadn (x := 6) rfl rfl ?_
  refine x_inv (N := m_X2_readSum) (As := [.int 6]) (b := 95) (st := []) (dx9 := 10) (mc := 0) (ms := 0) (host := "") 2 rfl t_X2_readSum ⟨Or.inl q_2_86, i_X2_readSum.1, i_X2_readSum.2⟩ ⟨by decide, rfl⟩ (congrArg Prod.fst (J.1.1 95 (2, 6) rfl)) rfl (by decide) rfl rfl ⟨by decide, by decide⟩ (sf_X2_readSum_r95_c6  hD J qu2 qu3 (by omega)  (fun v7 h ev7 J S4 u5 u6 qu5 qu6 ru5 => ?_))
  have Sm := jSm_tr rfl Sm S4
  have eu5 := (show 0 ≤ u5.toInt ∧ u5.toInt ≤ 3 from qu5 ▸ jrg_f J sg_68_5_6_1_0_1)
  have eu6 := (show 0 ≤ u6.toInt ∧ u6.toInt ≤ 400 from qu6 ▸ jrg_f J sg_68_3_4_1_0_1)
  show jX m_X2_readPlain 11 0 0 218 [(4, .int 8), (0, .ref 95), (1, .int 6), (2, .int l2)] [.int v7] _ 0 0 _
  refine x_ifne (tgt := 223) rfl rfl (ti_ne rfl jk_0 ⟨fun c8 => ?_, fun c8 => ?_⟩)
  ·
    refine x_aloadn (x := 95) rfl rfl ?_
    refine x_iload (x := 8) rfl rfl ?_
    refine x_inv (N := m_X2_emit) (As := [.int 8]) (b := 95) (st := []) (dx9 := 1) (mc := 0) (ms := 0) (host := "") 2 rfl t_X2_emit ⟨Or.inl q_2_89, i_X2_emit.1, i_X2_emit.2⟩ ⟨by decide, rfl⟩ (congrArg Prod.fst (J.1.1 95 (2, 6) rfl)) rfl (by decide) rfl rfl ⟨by decide, by decide⟩ (sf_X2_emit_r95  hD J  (fun h J S9 => ?_))
    have Sm := jSm_tr rfl Sm S9
    show jX m_X2_readPlain 11 0 0 229 [(4, .int 8), (0, .ref 95), (1, .int 6), (2, .int l2)] [] _ 0 0 _
    exact jX.sub (jsb_c rfl (jsb_c rfl jsb_n)) (ct_X2_readPlain_r95_c6_229 hD hQ  l2 u6 u5 h (jr_of rfl (by omega)) (jr_of rfl (by omega)) (jr_of rfl (by omega)) (by omega) (jmc S9 rfl qu6) (jmc S9 rfl qu5) J Sm)
  ·
    refine x_iconst (v := 0) rfl ki_0 ?_
    refine x_zret rfl rfl (by decide) ?_
    exact hQ _ _ (jr_of jk_0 (by omega)) J Sm _ _ qu5 qu6 (by omega)
set_option maxRecDepth 100000 in
set_option maxHeartbeats 4000000 in
theorem ct_X2_readPlain_r95_c6_900190 {Dy : jH → Prop} {h0 : jH} {Q : Option Value → jH → Prop} (hD : jDk Dy) (hQ : ∀ (v : Int32) hx9, 0 ≤ v.toInt ∧ v.toInt ≤ 1 → jJ jSgX Dy hx9 → jSm fp_X2_readPlain_r95_c6 h0 hx9 → ∀ u0 u1 : Int32, jiv hx9 68 5 = u0 → jiv hx9 68 3 = u1 → (u0.toInt ≠ 3 ∨ u1.toInt ≤ 399) → Q (some (.int v)) hx9) : ∀ (l2 : Int32) (g0 : Int32) (g1 : Int32) (h : jH), 0 ≤ l2.toInt ∧ l2.toInt ≤ 1 → 0 ≤ g0.toInt ∧ g0.toInt ≤ 400 → 0 ≤ g1.toInt ∧ g1.toInt ≤ 3 → (g1.toInt ≠ 3 ∨ g0.toInt ≤ 399) → jiv h 68 3 = g0 → jiv h 68 5 = g1 → jJ jSgX Dy h → jSm fp_X2_readPlain_r95_c6 h0 h → jX m_X2_readPlain 11 0 0 190 [(0, .ref 95), (1, .int 6), (2, .int l2)] [.int 7] h 0 0 Q := by
  intro l2 g0 g1 h y0 y1 y2 y3 z0 z1  J Sm
  refine x_istore (lsx9 := [(4, .int 7), (0, .ref 95), (1, .int 6), (2, .int l2)]) rfl rfl rfl ?_
  refine x_iload (x := 7) rfl rfl ?_
  refine x_iconst (v := (-1)) rfl ki_m1 ?_
  refine x_icne (tgt := 206) rfl rfl (ti_ne jk_7 jk_m1 (bn_t (by omega) ?_))
  refine x_aloadn (x := 95) rfl rfl ?_
  refine z_getR (N := 6) (b := 68) 2 0 rfl f_2_30 rfl J rfl 12160 ⟨rfl, rfl⟩ rfl ?_
  refine x_inv (N := m_X9_step) (As := []) (b := 68) (st := []) (dx9 := 2) (mc := 0) (ms := 0) (host := "") 9 rfl t_X9_step ⟨Or.inl q_2_62, i_X9_step.1, i_X9_step.2⟩ ⟨by decide, rfl⟩ (congrArg Prod.fst (J.1.1 68 (9, 6) rfl)) rfl (by decide) rfl rfl ⟨by decide, by decide⟩ (sf_X9_step_r68  hD J z1 z0 (by omega)  (fun h J S1 u2 u3 qu2 qu3 ru2 => ?_))
  have Sm := jSm_tr rfl Sm S1
  have eu2 := (show 0 ≤ u2.toInt ∧ u2.toInt ≤ 3 from qu2 ▸ jrg_f J sg_68_5_6_1_0_1)
  have eu3 := (show 0 ≤ u3.toInt ∧ u3.toInt ≤ 400 from qu3 ▸ jrg_f J sg_68_3_4_1_0_1)
  show jX m_X2_readPlain 11 0 0 213 [(4, .int 7), (0, .ref 95), (1, .int 6), (2, .int l2)] [] _ 0 0 _
  refine x_aloadn (x := 95) rfl rfl ?_
  refine x_iloadn (x := 6) rfl rfl ?_
  refine x_inv (N := m_X2_readSum) (As := [.int 6]) (b := 95) (st := []) (dx9 := 10) (mc := 0) (ms := 0) (host := "") 2 rfl t_X2_readSum ⟨Or.inl q_2_86, i_X2_readSum.1, i_X2_readSum.2⟩ ⟨by decide, rfl⟩ (congrArg Prod.fst (J.1.1 95 (2, 6) rfl)) rfl (by decide) rfl rfl ⟨by decide, by decide⟩ (sf_X2_readSum_r95_c6  hD J qu2 qu3 (by omega)  (fun v7 h ev7 J S4 u5 u6 qu5 qu6 ru5 => ?_))
  have Sm := jSm_tr rfl Sm S4
  have eu5 := (show 0 ≤ u5.toInt ∧ u5.toInt ≤ 3 from qu5 ▸ jrg_f J sg_68_5_6_1_0_1)
  have eu6 := (show 0 ≤ u6.toInt ∧ u6.toInt ≤ 400 from qu6 ▸ jrg_f J sg_68_3_4_1_0_1)
  show jX m_X2_readPlain 11 0 0 218 [(4, .int 7), (0, .ref 95), (1, .int 6), (2, .int l2)] [.int v7] _ 0 0 _
  refine x_ifne (tgt := 223) rfl rfl (ti_ne rfl jk_0 ⟨fun c8 => ?_, fun c8 => ?_⟩)
  ·
    refine x_aloadn (x := 95) rfl rfl ?_
    refine x_iload (x := 7) rfl rfl ?_
    refine x_inv (N := m_X2_emit) (As := [.int 7]) (b := 95) (st := []) (dx9 := 1) (mc := 0) (ms := 0) (host := "") 2 rfl t_X2_emit ⟨Or.inl q_2_89, i_X2_emit.1, i_X2_emit.2⟩ ⟨by decide, rfl⟩ (congrArg Prod.fst (J.1.1 95 (2, 6) rfl)) rfl (by decide) rfl rfl ⟨by decide, by decide⟩ (sf_X2_emit_r95  hD J  (fun h J S9 => ?_))
    have Sm := jSm_tr rfl Sm S9
    show jX m_X2_readPlain 11 0 0 229 [(4, .int 7), (0, .ref 95), (1, .int 6), (2, .int l2)] [] _ 0 0 _
    exact jX.sub (jsb_c rfl (jsb_c rfl jsb_n)) (ct_X2_readPlain_r95_c6_229 hD hQ  l2 u6 u5 h (jr_of rfl (by omega)) (jr_of rfl (by omega)) (jr_of rfl (by omega)) (by omega) (jmc S9 rfl qu6) (jmc S9 rfl qu5) J Sm)
  ·
    refine x_iconst (v := 0) rfl ki_0 ?_
    refine x_zret rfl rfl (by decide) ?_
    exact hQ _ _ (jr_of jk_0 (by omega)) J Sm _ _ qu5 qu6 (by omega)
set_option maxRecDepth 100000 in
set_option maxHeartbeats 4000000 in
theorem ct_X2_readPlain_r95_c6_108 {Dy : jH → Prop} {h0 : jH} {Q : Option Value → jH → Prop} (hD : jDk Dy) (hQ : ∀ (v : Int32) hx9, 0 ≤ v.toInt ∧ v.toInt ≤ 1 → jJ jSgX Dy hx9 → jSm fp_X2_readPlain_r95_c6 h0 hx9 → ∀ u0 u1 : Int32, jiv hx9 68 5 = u0 → jiv hx9 68 3 = u1 → (u0.toInt ≠ 3 ∨ u1.toInt ≤ 399) → Q (some (.int v)) hx9) : ∀ (g0 : Int32) (g1 : Int32) (h : jH), 0 ≤ g0.toInt ∧ g0.toInt ≤ 400 → 0 ≤ g1.toInt ∧ g1.toInt ≤ 3 → (g1.toInt ≠ 3 ∨ g0.toInt ≤ 399) → jiv h 68 3 = g0 → jiv h 68 5 = g1 → jJ jSgX Dy h → jSm fp_X2_readPlain_r95_c6 h0 h → jX m_X2_readPlain 11 0 0 108 [] [] h 0 0 Q := by
  intro g0 g1 h y0 y1 y2 z0 z1  J Sm
  refine x_iconst (v := 0) rfl ki_0 ?_
  refine x_zret rfl rfl (by decide) ?_
  exact hQ _ _ (jr_of jk_0 (by omega)) J Sm _ _ z1 z0 (by omega)
set_option maxRecDepth 100000 in
set_option maxHeartbeats 4000000 in
theorem ct_X2_readPlain_r95_c6_46 {Dy : jH → Prop} {h0 : jH} {Q : Option Value → jH → Prop} (hD : jDk Dy) (hQ : ∀ (v : Int32) hx9, 0 ≤ v.toInt ∧ v.toInt ≤ 1 → jJ jSgX Dy hx9 → jSm fp_X2_readPlain_r95_c6 h0 hx9 → ∀ u0 u1 : Int32, jiv hx9 68 5 = u0 → jiv hx9 68 3 = u1 → (u0.toInt ≠ 3 ∨ u1.toInt ≤ 399) → Q (some (.int v)) hx9) : ∀ (l2 : Int32) (g0 : Int32) (g1 : Int32) (h : jH), 0 ≤ l2.toInt ∧ l2.toInt ≤ 1 → 0 ≤ g0.toInt ∧ g0.toInt ≤ 400 → 0 ≤ g1.toInt ∧ g1.toInt ≤ 3 → (g1.toInt ≠ 3 ∨ g0.toInt ≤ 399) → jiv h 68 3 = g0 → jiv h 68 5 = g1 → jJ jSgX Dy h → jSm fp_X2_readPlain_r95_c6 h0 h → jX m_X2_readPlain 11 0 0 46 [(0, .ref 95), (1, .int 6), (2, .int l2)] [] h 0 0 Q := by
  intro l2 g0 g1 h y0 y1 y2 y3 z0 z1  J Sm
  refine x_aloadn (x := 95) rfl rfl ?_
  refine z_getR (N := 6) (b := 68) 2 0 rfl f_2_30 rfl J rfl 12160 ⟨rfl, rfl⟩ rfl ?_
  refine x_ldcS (jstr.getD 10 jstr_0) rfl (List.mem_of_getElem? (i := 10) rfl) rfl rfl ?_
  show jX m_X2_readPlain 11 0 0 52 [(0, .ref 95), (1, .int 6), (2, .int l2)] [.ref 15, .ref 68] _ 0 0 _
  refine x_inv (N := m_X9_wordOf) (As := [.ref 15]) (b := 68) (st := []) (dx9 := 4) (mc := 0) (ms := 0) (host := "") 9 rfl t_X9_wordOf ⟨Or.inl q_2_67, i_X9_wordOf.1, i_X9_wordOf.2⟩ ⟨by decide, rfl⟩ (congrArg Prod.fst (J.1.1 68 (9, 6) rfl)) rfl (by decide) rfl rfl ⟨by decide, by decide⟩ (sf_X9_wordOf_r68_r15  hD J  (fun v2 h J S1 => ?_))
  have ev2 := jfull v2
  have Sm := jSm_tr rfl Sm S1
  show jX m_X2_readPlain 11 0 0 55 [(0, .ref 95), (1, .int 6), (2, .int l2)] [.int v2] _ 0 0 _
  refine x_istoren (lsx9 := [(3, .int v2), (0, .ref 95), (1, .int 6), (2, .int l2)]) rfl rfl rfl ?_
  refine x_aloadn (x := 95) rfl rfl ?_
  refine z_getR (N := 6) (b := 68) 2 0 rfl f_2_30 rfl J rfl 12160 ⟨rfl, rfl⟩ rfl ?_
  refine x_bipush (v := 40) rfl kb_40 ?_
  refine x_inv (N := m_X9_isSign) (As := [.int 40]) (b := 68) (st := []) (dx9 := 1) (mc := 0) (ms := 0) (host := "") 9 rfl t_X9_isSign ⟨Or.inl q_2_55, i_X9_isSign.1, i_X9_isSign.2⟩ ⟨by decide, rfl⟩ (congrArg Prod.fst (J.1.1 68 (9, 6) rfl)) rfl (by decide) rfl rfl ⟨by decide, by decide⟩ (sf_X9_isSign_r68 (jr_of jk_40 (by omega)) hD J (jmc S1 rfl z1) (jmc S1 rfl z0) (by omega)  (fun v6 h ev6 J S3 u4 u5 qu4 qu5 ru4 => ?_))
  have Sm := jSm_tr rfl Sm S3
  have eu4 := (show 0 ≤ u4.toInt ∧ u4.toInt ≤ 3 from qu4 ▸ jrg_f J sg_68_5_6_1_0_1)
  have eu5 := (show 0 ≤ u5.toInt ∧ u5.toInt ≤ 400 from qu5 ▸ jrg_f J sg_68_3_4_1_0_1)
  show jX m_X2_readPlain 11 0 0 65 [(3, .int v2), (0, .ref 95), (1, .int 6), (2, .int l2)] [.int v6] _ 0 0 _
  refine x_ifeq (tgt := 110) rfl rfl (ti_eq rfl jk_0 ⟨fun c7 => ?_, fun c7 => ?_⟩)
  ·
    refine x_iloadn (x := v2) rfl rfl ?_
    refine x_iconst (v := (-1)) rfl ki_m1 ?_
    refine x_iceq (tgt := 128) rfl rfl (ti_eq rfl jk_m1 ⟨fun c8 => ?_, fun c8 => ?_⟩)
    ·
      refine x_aloadn (x := 95) rfl rfl ?_
      refine x_iloadn (x := 6) rfl rfl ?_
      refine x_inv (N := m_X2_readSum) (As := [.int 6]) (b := 95) (st := []) (dx9 := 10) (mc := 0) (ms := 0) (host := "") 2 rfl t_X2_readSum ⟨Or.inl q_2_86, i_X2_readSum.1, i_X2_readSum.2⟩ ⟨by decide, rfl⟩ (congrArg Prod.fst (J.1.1 95 (2, 6) rfl)) rfl (by decide) rfl rfl ⟨by decide, by decide⟩ (sf_X2_readSum_r95_c6  hD J qu4 qu5 (by omega)  (fun v12 h ev12 J S9 u10 u11 qu10 qu11 ru10 => ?_))
      have Sm := jSm_tr rfl Sm S9
      have eu10 := (show 0 ≤ u10.toInt ∧ u10.toInt ≤ 3 from qu10 ▸ jrg_f J sg_68_5_6_1_0_1)
      have eu11 := (show 0 ≤ u11.toInt ∧ u11.toInt ≤ 400 from qu11 ▸ jrg_f J sg_68_3_4_1_0_1)
      show jX m_X2_readPlain 11 0 0 133 [(3, .int v2), (0, .ref 95), (1, .int 6), (2, .int l2)] [.int v12] _ 0 0 _
      refine x_ifne (tgt := 138) rfl rfl (ti_ne rfl jk_0 ⟨fun c13 => ?_, fun c13 => ?_⟩)
      ·
        refine x_aloadn (x := 95) rfl rfl ?_
        refine z_getR (N := 6) (b := 68) 2 0 rfl f_2_30 rfl J rfl 12160 ⟨rfl, rfl⟩ rfl ?_
        refine x_bipush (v := 60) rfl kb_60 ?_
        refine x_inv (N := m_X9_isSign) (As := [.int 60]) (b := 68) (st := []) (dx9 := 1) (mc := 0) (ms := 0) (host := "") 9 rfl t_X9_isSign ⟨Or.inl q_2_55, i_X9_isSign.1, i_X9_isSign.2⟩ ⟨by decide, rfl⟩ (congrArg Prod.fst (J.1.1 68 (9, 6) rfl)) rfl (by decide) rfl rfl ⟨by decide, by decide⟩ (sf_X9_isSign_r68 (jr_of jk_60 (by omega)) hD J qu10 qu11 (by omega)  (fun v17 h ev17 J S14 u15 u16 qu15 qu16 ru15 => ?_))
        have Sm := jSm_tr rfl Sm S14
        have eu15 := (show 0 ≤ u15.toInt ∧ u15.toInt ≤ 3 from qu15 ▸ jrg_f J sg_68_5_6_1_0_1)
        have eu16 := (show 0 ≤ u16.toInt ∧ u16.toInt ≤ 400 from qu16 ▸ jrg_f J sg_68_3_4_1_0_1)
        show jX m_X2_readPlain 11 0 0 147 [(3, .int v2), (0, .ref 95), (1, .int 6), (2, .int l2)] [.int v17] _ 0 0 _
        refine x_ifeq (tgt := 155) rfl rfl (ti_eq rfl jk_0 ⟨fun c18 => ?_, fun c18 => ?_⟩)
        ·
          refine x_aloadn (x := 95) rfl rfl ?_
          refine z_getR (N := 6) (b := 68) 2 0 rfl f_2_30 rfl J rfl 12160 ⟨rfl, rfl⟩ rfl ?_
          refine x_bipush (v := 62) rfl kb_62 ?_
          refine x_inv (N := m_X9_isSign) (As := [.int 62]) (b := 68) (st := []) (dx9 := 1) (mc := 0) (ms := 0) (host := "") 9 rfl t_X9_isSign ⟨Or.inl q_2_55, i_X9_isSign.1, i_X9_isSign.2⟩ ⟨by decide, rfl⟩ (congrArg Prod.fst (J.1.1 68 (9, 6) rfl)) rfl (by decide) rfl rfl ⟨by decide, by decide⟩ (sf_X9_isSign_r68 (jr_of jk_62 (by omega)) hD J qu15 qu16 (by omega)  (fun v22 h ev22 J S19 u20 u21 qu20 qu21 ru20 => ?_))
          have Sm := jSm_tr rfl Sm S19
          have eu20 := (show 0 ≤ u20.toInt ∧ u20.toInt ≤ 3 from qu20 ▸ jrg_f J sg_68_5_6_1_0_1)
          have eu21 := (show 0 ≤ u21.toInt ∧ u21.toInt ≤ 400 from qu21 ▸ jrg_f J sg_68_3_4_1_0_1)
          show jX m_X2_readPlain 11 0 0 164 [(3, .int v2), (0, .ref 95), (1, .int 6), (2, .int l2)] [.int v22] _ 0 0 _
          refine x_ifeq (tgt := 172) rfl rfl (ti_eq rfl jk_0 ⟨fun c23 => ?_, fun c23 => ?_⟩)
          ·
            refine x_aloadn (x := 95) rfl rfl ?_
            refine z_getR (N := 6) (b := 68) 2 0 rfl f_2_30 rfl J rfl 12160 ⟨rfl, rfl⟩ rfl ?_
            refine x_bipush (v := 61) rfl kb_61 ?_
            refine x_inv (N := m_X9_isSign) (As := [.int 61]) (b := 68) (st := []) (dx9 := 1) (mc := 0) (ms := 0) (host := "") 9 rfl t_X9_isSign ⟨Or.inl q_2_55, i_X9_isSign.1, i_X9_isSign.2⟩ ⟨by decide, rfl⟩ (congrArg Prod.fst (J.1.1 68 (9, 6) rfl)) rfl (by decide) rfl rfl ⟨by decide, by decide⟩ (sf_X9_isSign_r68 (jr_of jk_61 (by omega)) hD J qu20 qu21 (by omega)  (fun v27 h ev27 J S24 u25 u26 qu25 qu26 ru25 => ?_))
            have Sm := jSm_tr rfl Sm S24
            have eu25 := (show 0 ≤ u25.toInt ∧ u25.toInt ≤ 3 from qu25 ▸ jrg_f J sg_68_5_6_1_0_1)
            have eu26 := (show 0 ≤ u26.toInt ∧ u26.toInt ≤ 400 from qu26 ▸ jrg_f J sg_68_3_4_1_0_1)
            show jX m_X2_readPlain 11 0 0 181 [(3, .int v2), (0, .ref 95), (1, .int 6), (2, .int l2)] [.int v27] _ 0 0 _
            refine x_ifeq (tgt := 189) rfl rfl (ti_eq rfl jk_0 ⟨fun c28 => ?_, fun c28 => ?_⟩)
            ·
              refine x_iconst (v := (-1)) rfl ki_m1 ?_
              exact jX.sub (jsb_c rfl (jsb_c rfl (jsb_c rfl jsb_n))) (ct_X2_readPlain_r95_c6_100190 hD hQ  l2 u26 u25 h (jr_of rfl (by omega)) (jr_of rfl (by omega)) (jr_of rfl (by omega)) (by omega) qu26 qu25 J Sm)
            ·
              refine x_bipush (v := 9) rfl kb_9 ?_
              refine x_goto (tgt := 190) rfl rfl ?_
              exact jX.sub (jsb_c rfl (jsb_c rfl (jsb_c rfl jsb_n))) (ct_X2_readPlain_r95_c6_190 hD hQ  l2 u26 u25 h (jr_of rfl (by omega)) (jr_of rfl (by omega)) (jr_of rfl (by omega)) (by omega) qu26 qu25 J Sm)
          ·
            refine x_bipush (v := 8) rfl kb_8 ?_
            refine x_goto (tgt := 190) rfl rfl ?_
            exact jX.sub (jsb_c rfl (jsb_c rfl (jsb_c rfl jsb_n))) (ct_X2_readPlain_r95_c6_1000190 hD hQ  l2 u21 u20 h (jr_of rfl (by omega)) (jr_of rfl (by omega)) (jr_of rfl (by omega)) (by omega) qu21 qu20 J Sm)
        ·
          refine x_bipush (v := 7) rfl kb_7 ?_
          refine x_goto (tgt := 190) rfl rfl ?_
          exact jX.sub (jsb_c rfl (jsb_c rfl (jsb_c rfl jsb_n))) (ct_X2_readPlain_r95_c6_900190 hD hQ  l2 u16 u15 h (jr_of rfl (by omega)) (jr_of rfl (by omega)) (jr_of rfl (by omega)) (by omega) qu16 qu15 J Sm)
      ·
        refine x_iconst (v := 0) rfl ki_0 ?_
        refine x_zret rfl rfl (by decide) ?_
        exact hQ _ _ (jr_of jk_0 (by omega)) J Sm _ _ qu10 qu11 (by omega)
    ·
      refine x_aloadn (x := 95) rfl rfl ?_
      refine x_iconst (v := 2) rfl ki_2 ?_
      refine x_iconst (v := 5) rfl ki_5 ?_
      refine x_iloadn (x := v2) rfl rfl ?_
      refine z_iadd0 rfl (fun v29 => ?_)
      have ev29 := jfull v29
      refine x_inv (N := m_X2_readPart) (As := [.int 2, .int v29]) (b := 95) (st := []) (dx9 := 3) (mc := 0) (ms := 0) (host := "") 2 rfl t_X2_readPart ⟨Or.inl q_2_141, i_X2_readPart.1, i_X2_readPart.2⟩ ⟨by decide, rfl⟩ (congrArg Prod.fst (J.1.1 95 (2, 6) rfl)) rfl (by decide) rfl rfl ⟨by decide, by decide⟩ (sf_X2_readPart_r95 (jr_of jk_2 (by omega)) hD J qu4 qu5 (by omega)  (fun v33 h ev33 J S30 u31 u32 qu31 qu32 ru31 => ?_))
      have Sm := jSm_tr rfl Sm S30
      have eu31 := (show 0 ≤ u31.toInt ∧ u31.toInt ≤ 3 from qu31 ▸ jrg_f J sg_68_5_6_1_0_1)
      have eu32 := (show 0 ≤ u32.toInt ∧ u32.toInt ≤ 400 from qu32 ▸ jrg_f J sg_68_3_4_1_0_1)
      show jX m_X2_readPlain 11 0 0 123 [(3, .int v2), (0, .ref 95), (1, .int 6), (2, .int l2)] [.int v33] _ 0 0 _
      refine x_ifne (tgt := 229) rfl rfl (ti_ne rfl jk_0 ⟨fun c34 => ?_, fun c34 => ?_⟩)
      ·
        exact jX.sub (jsb_c rfl (jsb_c rfl jsb_n)) (ct_X2_readPlain_r95_c6_229 hD hQ  l2 u32 u31 h (jr_of rfl (by omega)) (jr_of rfl (by omega)) (jr_of rfl (by omega)) (by omega) qu32 qu31 J Sm)
      ·
        refine x_iconst (v := 0) rfl ki_0 ?_
        refine x_zret rfl rfl (by decide) ?_
        exact hQ _ _ (jr_of jk_0 (by omega)) J Sm _ _ qu31 qu32 (by omega)
  ·
    refine x_iloadn (x := 6) rfl rfl ?_
    refine x_bipush (v := 8) rfl kb_8 ?_
    refine x_iclt (tgt := 82) rfl rfl (ti_lt jk_6 jk_8 (br_t (by omega) ?_))
    refine x_aloadn (x := 95) rfl rfl ?_
    refine z_getR (N := 6) (b := 68) 2 0 rfl f_2_30 rfl J rfl 12160 ⟨rfl, rfl⟩ rfl ?_
    refine x_inv (N := m_X9_step) (As := []) (b := 68) (st := []) (dx9 := 2) (mc := 0) (ms := 0) (host := "") 9 rfl t_X9_step ⟨Or.inl q_2_62, i_X9_step.1, i_X9_step.2⟩ ⟨by decide, rfl⟩ (congrArg Prod.fst (J.1.1 68 (9, 6) rfl)) rfl (by decide) rfl rfl ⟨by decide, by decide⟩ (sf_X9_step_r68  hD J qu4 qu5 (by omega)  (fun h J S35 u36 u37 qu36 qu37 ru36 => ?_))
    have Sm := jSm_tr rfl Sm S35
    have eu36 := (show 0 ≤ u36.toInt ∧ u36.toInt ≤ 3 from qu36 ▸ jrg_f J sg_68_5_6_1_0_1)
    have eu37 := (show 0 ≤ u37.toInt ∧ u37.toInt ≤ 400 from qu37 ▸ jrg_f J sg_68_3_4_1_0_1)
    show jX m_X2_readPlain 11 0 0 89 [(3, .int v2), (0, .ref 95), (1, .int 6), (2, .int l2)] [] _ 0 0 _
    refine x_aloadn (x := 95) rfl rfl ?_
    refine x_iloadn (x := 6) rfl rfl ?_
    refine x_iconst (v := 1) rfl ki_1 ?_
    refine y_iadd (v := 7) rfl (by decide) ?_
    refine x_inv (N := m_X2_readTest) (As := [.int 7]) (b := 95) (st := []) (dx9 := 10) (mc := 0) (ms := 0) (host := "") 2 rfl t_X2_readTest ⟨Or.inl q_2_96, i_X2_readTest.1, i_X2_readTest.2⟩ ⟨by decide, rfl⟩ (congrArg Prod.fst (J.1.1 95 (2, 6) rfl)) rfl (by decide) rfl rfl ⟨by decide, by decide⟩ (sf_X2_readTest_r95_c7  hD J qu36 qu37 (by omega)  (fun v41 h ev41 J S38 u39 u40 qu39 qu40 ru39 => ?_))
    have Sm := jSm_tr rfl Sm S38
    have eu39 := (show 0 ≤ u39.toInt ∧ u39.toInt ≤ 3 from qu39 ▸ jrg_f J sg_68_5_6_1_0_1)
    have eu40 := (show 0 ≤ u40.toInt ∧ u40.toInt ≤ 400 from qu40 ▸ jrg_f J sg_68_3_4_1_0_1)
    show jX m_X2_readPlain 11 0 0 96 [(3, .int v2), (0, .ref 95), (1, .int 6), (2, .int l2)] [.int v41] _ 0 0 _
    refine x_ifeq (tgt := 108) rfl rfl (ti_eq rfl jk_0 ⟨fun c42 => ?_, fun c42 => ?_⟩)
    ·
      exact jX.sub jsb_n (ct_X2_readPlain_r95_c6_108 hD hQ  u40 u39 h (jr_of rfl (by omega)) (jr_of rfl (by omega)) (by omega) qu40 qu39 J Sm)
    ·
      refine x_aloadn (x := 95) rfl rfl ?_
      refine x_bipush (v := 41) rfl kb_41 ?_
      refine x_inv (N := m_X2_readSign) (As := [.int 41]) (b := 95) (st := []) (dx9 := 10) (mc := 0) (ms := 0) (host := "") 2 rfl t_X2_readSign ⟨Or.inl q_2_138, i_X2_readSign.1, i_X2_readSign.2⟩ ⟨by decide, rfl⟩ (congrArg Prod.fst (J.1.1 95 (2, 6) rfl)) rfl (by decide) rfl rfl ⟨by decide, by decide⟩ (jC.of rfl k_X2_readSign rfl ?_)
      show jX m_X2_readSign 10 0 0 0 [(0, .ref 95), (1, .int 41)] [] _ 0 0 _
      refine x_aloadn (x := 95) rfl rfl ?_
      refine z_getR (N := 6) (b := 68) 2 0 rfl f_2_30 rfl J rfl 12160 ⟨rfl, rfl⟩ rfl ?_
      refine x_iloadn (x := 41) rfl rfl ?_
      refine x_inv (N := m_X9_isSign) (As := [.int 41]) (b := 68) (st := []) (dx9 := 1) (mc := 0) (ms := 0) (host := "") 9 rfl t_X9_isSign ⟨Or.inl q_2_55, i_X9_isSign.1, i_X9_isSign.2⟩ ⟨by decide, rfl⟩ (congrArg Prod.fst (J.1.1 68 (9, 6) rfl)) rfl (by decide) rfl rfl ⟨by decide, by decide⟩ (sf_X9_isSign_r68 (jr_of jk_41 (by omega)) hD J qu39 qu40 (by omega)  (fun v46 h ev46 J S43 u44 u45 qu44 qu45 ru44 => ?_))
      have Sm := jSm_tr rfl Sm S43
      have eu44 := (show 0 ≤ u44.toInt ∧ u44.toInt ≤ 3 from qu44 ▸ jrg_f J sg_68_5_6_1_0_1)
      have eu45 := (show 0 ≤ u45.toInt ∧ u45.toInt ≤ 400 from qu45 ▸ jrg_f J sg_68_3_4_1_0_1)
      show jX m_X2_readSign 10 0 0 8 [(0, .ref 95), (1, .int 41)] [.int v46] _ 0 0 _
      refine x_ifne (tgt := 19) rfl rfl (ti_ne rfl jk_0 ⟨fun c47 => ?_, fun c47 => ?_⟩)
      ·
        refine x_aloadn (x := 95) rfl rfl ?_
        refine z_getR (N := 6) (b := 68) 2 0 rfl f_2_30 rfl J rfl 12160 ⟨rfl, rfl⟩ rfl ?_
        refine x_inv (N := m_X9_step) (As := []) (b := 68) (st := []) (dx9 := 2) (mc := 0) (ms := 0) (host := "") 9 rfl t_X9_step ⟨Or.inl q_2_62, i_X9_step.1, i_X9_step.2⟩ ⟨by decide, rfl⟩ (congrArg Prod.fst (J.1.1 68 (9, 6) rfl)) rfl (by decide) rfl rfl ⟨by decide, by decide⟩ (sf_X9_step_r68  hD J qu44 qu45 (by omega)  (fun h J S48 u49 u50 qu49 qu50 ru49 => ?_))
        have Sm := jSm_tr rfl Sm S48
        have eu49 := (show 0 ≤ u49.toInt ∧ u49.toInt ≤ 3 from qu49 ▸ jrg_f J sg_68_5_6_1_0_1)
        have eu50 := (show 0 ≤ u50.toInt ∧ u50.toInt ≤ 400 from qu50 ▸ jrg_f J sg_68_3_4_1_0_1)
        show jX m_X2_readSign 10 0 0 26 [(0, .ref 95), (1, .int 41)] [] _ 0 0 _
        refine x_iconst (v := 1) rfl ki_1 ?_
        refine x_zret rfl rfl (by decide) ?_
        show jX m_X2_readPlain 11 0 0 105 [(3, .int v2), (0, .ref 95), (1, .int 6), (2, .int l2)] [.int 1] _ 0 0 _
        refine x_ifne (tgt := 229) rfl rfl (ti_ne jk_1 jk_0 (bn_t (by omega) ?_))
        exact jX.sub (jsb_c rfl (jsb_c rfl jsb_n)) (ct_X2_readPlain_r95_c6_229 hD hQ  l2 u50 u49 h (jr_of rfl (by omega)) (jr_of rfl (by omega)) (jr_of rfl (by omega)) (by omega) qu50 qu49 J Sm)
      ·
        refine x_aloadn (x := 95) rfl rfl ?_
        refine z_getR (N := 6) (b := 68) 2 0 rfl f_2_30 rfl J rfl 12160 ⟨rfl, rfl⟩ rfl ?_
        refine x_inv (N := m_X9_blame) (As := []) (b := 68) (st := []) (dx9 := 9) (mc := 0) (ms := 0) (host := "") 9 rfl t_X9_blame ⟨Or.inl q_2_59, i_X9_blame.1, i_X9_blame.2⟩ ⟨by decide, rfl⟩ (congrArg Prod.fst (J.1.1 68 (9, 6) rfl)) rfl (by decide) rfl rfl ⟨by decide, by decide⟩ (jC.of rfl k_X9_blame rfl ?_)
        show jX m_X9_blame 9 0 0 0 [(0, .ref 68)] [] _ 0 0 _
        refine x_aloadn (x := 68) rfl rfl ?_
        refine x_aloadn (x := 68) rfl rfl ?_
        refine z_getM (N := 6) (v := u45) 9 3 rfl f_9_22 rfl J rfl qu45 ?_
        refine z_putI (N := 6) (w := u45.toInt) 9 2 rfl f_9_19 rfl (jfin_no TX9 RX9 6 rfl rfl) hD J Sm rfl rfl rfl (pw_68_2 (by omega)) rfl (fun h w51 J Sm => ?_)
        refine x_iconst (v := 0) rfl ki_0 ?_
        refine x_zret rfl rfl (by decide) ?_
        show jX m_X2_readSign 10 0 0 18 [(0, .ref 95), (1, .int 41)] [.int 0] _ 0 0 _
        refine x_zret rfl rfl (by decide) ?_
        show jX m_X2_readPlain 11 0 0 105 [(3, .int v2), (0, .ref 95), (1, .int 6), (2, .int l2)] [.int 0] _ 0 0 _
        refine x_ifne (tgt := 229) rfl rfl (ti_ne jk_0 jk_0 (bn_f (by omega) ?_))
        exact jX.sub jsb_n (ct_X2_readPlain_r95_c6_108 hD hQ  u45 u44 h (jr_of rfl (by omega)) (jr_of rfl (by omega)) (by omega) (jmo w51 rfl qu45) (jmo w51 rfl qu44) J Sm)
set_option maxRecDepth 100000 in
set_option maxHeartbeats 4000000 in
theorem ct_X2_readPlain_r95_c6_300032 {Dy : jH → Prop} {h0 : jH} {Q : Option Value → jH → Prop} {R4 : Int} (hD : jDk Dy) (hQ : ∀ (v : Int32) hx9, 0 ≤ v.toInt ∧ v.toInt ≤ 1 → jJ jSgX Dy hx9 → jSm fp_X2_readPlain_r95_c6 h0 hx9 → ∀ u0 u1 : Int32, jiv hx9 68 5 = u0 → jiv hx9 68 3 = u1 → (u0.toInt ≠ 3 ∨ u1.toInt ≤ 399) → Q (some (.int v)) hx9) (k4 : ∀ (l2 : Int32) (l3 : Int32) (g0 : Int32) (g1 : Int32) (h : jH), 400 - l3.toInt < R4 → 0 ≤ l2.toInt ∧ l2.toInt ≤ 1 → 0 ≤ l3.toInt ∧ l3.toInt ≤ 400 → 0 ≤ g0.toInt ∧ g0.toInt ≤ 400 → 0 ≤ g1.toInt ∧ g1.toInt ≤ 3 → (g1.toInt ≠ 3 ∨ g0.toInt ≤ 399) → jiv h 68 3 = g0 → jiv h 68 5 = g1 → jJ jSgX Dy h → jSm fp_X2_readPlain_r95_c6 h0 h → jX m_X2_readPlain 11 0 0 4 [(0, .ref 95), (1, .int 6), (2, .int l2), (3, .int l3)] [] h 0 0 Q) : ∀ (l3 : Int32) (g0 : Int32) (g1 : Int32) (h : jH), 0 ≤ l3.toInt ∧ l3.toInt ≤ 399 → 0 ≤ g0.toInt ∧ g0.toInt ≤ 400 → 0 ≤ g1.toInt ∧ g1.toInt ≤ 3 → (g1.toInt ≠ 3 ∨ g0.toInt ≤ 399) → jiv h 68 3 = g0 → jiv h 68 5 = g1 → 400 - l3.toInt ≤ R4 → jJ jSgX Dy h → jSm fp_X2_readPlain_r95_c6 h0 h → jX m_X2_readPlain 11 0 0 32 [(0, .ref 95), (1, .int 6), (3, .int l3)] [.int 1] h 0 0 Q := by
  intro l3 g0 g1 h y0 y1 y2 y3 z0 z1 m4 J Sm
  refine x_istoren (lsx9 := [(2, .int 1), (0, .ref 95), (1, .int 6), (3, .int l3)]) rfl rfl rfl ?_
  refine x_aloadn (x := 95) rfl rfl ?_
  refine z_getR (N := 6) (b := 68) 2 0 rfl f_2_30 rfl J rfl 12160 ⟨rfl, rfl⟩ rfl ?_
  refine x_inv (N := m_X9_step) (As := []) (b := 68) (st := []) (dx9 := 2) (mc := 0) (ms := 0) (host := "") 9 rfl t_X9_step ⟨Or.inl q_2_62, i_X9_step.1, i_X9_step.2⟩ ⟨by decide, rfl⟩ (congrArg Prod.fst (J.1.1 68 (9, 6) rfl)) rfl (by decide) rfl rfl ⟨by decide, by decide⟩ (sf_X9_step_r68  hD J z1 z0 (by omega)  (fun h J S1 u2 u3 qu2 qu3 ru2 => ?_))
  have Sm := jSm_tr rfl Sm S1
  have eu2 := (show 0 ≤ u2.toInt ∧ u2.toInt ≤ 3 from qu2 ▸ jrg_f J sg_68_5_6_1_0_1)
  have eu3 := (show 0 ≤ u3.toInt ∧ u3.toInt ≤ 400 from qu3 ▸ jrg_f J sg_68_3_4_1_0_1)
  show jX m_X2_readPlain 11 0 0 40 [(2, .int 1), (0, .ref 95), (1, .int 6), (3, .int l3)] [] _ 0 0 _
  refine z_iinc (x := l3) (lsx9 := fun v4 => [(3, .int v4), (2, .int 1), (0, .ref 95), (1, .int 6)]) rfl rfl rfl jko_1 (by omega) rfl (fun _ => rfl) (fun v4 ev4 => ?_)
  refine x_goto (tgt := 4) rfl rfl ?_
  exact jX.sub (jsb_c rfl (jsb_c rfl (jsb_c rfl (jsb_c rfl jsb_n)))) (k4 1 v4 u3 u2 h (by omega) (jr_of jk_1 (by omega)) (jr_of rfl (by omega)) (jr_of rfl (by omega)) (jr_of rfl (by omega)) (by omega) qu3 qu2 J Sm)
set_option maxRecDepth 100000 in
set_option maxHeartbeats 4000000 in
theorem ct_X2_readPlain_r95_c6_200032 {Dy : jH → Prop} {h0 : jH} {Q : Option Value → jH → Prop} {R4 : Int} (hD : jDk Dy) (hQ : ∀ (v : Int32) hx9, 0 ≤ v.toInt ∧ v.toInt ≤ 1 → jJ jSgX Dy hx9 → jSm fp_X2_readPlain_r95_c6 h0 hx9 → ∀ u0 u1 : Int32, jiv hx9 68 5 = u0 → jiv hx9 68 3 = u1 → (u0.toInt ≠ 3 ∨ u1.toInt ≤ 399) → Q (some (.int v)) hx9) (k4 : ∀ (l2 : Int32) (l3 : Int32) (g0 : Int32) (g1 : Int32) (h : jH), 400 - l3.toInt < R4 → 0 ≤ l2.toInt ∧ l2.toInt ≤ 1 → 0 ≤ l3.toInt ∧ l3.toInt ≤ 400 → 0 ≤ g0.toInt ∧ g0.toInt ≤ 400 → 0 ≤ g1.toInt ∧ g1.toInt ≤ 3 → (g1.toInt ≠ 3 ∨ g0.toInt ≤ 399) → jiv h 68 3 = g0 → jiv h 68 5 = g1 → jJ jSgX Dy h → jSm fp_X2_readPlain_r95_c6 h0 h → jX m_X2_readPlain 11 0 0 4 [(0, .ref 95), (1, .int 6), (2, .int l2), (3, .int l3)] [] h 0 0 Q) : ∀ (l3 : Int32) (g0 : Int32) (g1 : Int32) (h : jH), 0 ≤ l3.toInt ∧ l3.toInt ≤ 399 → 0 ≤ g0.toInt ∧ g0.toInt ≤ 400 → 0 ≤ g1.toInt ∧ g1.toInt ≤ 3 → (g1.toInt ≠ 3 ∨ g0.toInt ≤ 399) → jiv h 68 3 = g0 → jiv h 68 5 = g1 → 400 - l3.toInt ≤ R4 → jJ jSgX Dy h → jSm fp_X2_readPlain_r95_c6 h0 h → jX m_X2_readPlain 11 0 0 32 [(0, .ref 95), (1, .int 6), (3, .int l3)] [.int 0] h 0 0 Q := by
  intro l3 g0 g1 h y0 y1 y2 y3 z0 z1 m4 J Sm
  refine x_istoren (lsx9 := [(2, .int 0), (0, .ref 95), (1, .int 6), (3, .int l3)]) rfl rfl rfl ?_
  refine x_aloadn (x := 95) rfl rfl ?_
  refine z_getR (N := 6) (b := 68) 2 0 rfl f_2_30 rfl J rfl 12160 ⟨rfl, rfl⟩ rfl ?_
  refine x_inv (N := m_X9_step) (As := []) (b := 68) (st := []) (dx9 := 2) (mc := 0) (ms := 0) (host := "") 9 rfl t_X9_step ⟨Or.inl q_2_62, i_X9_step.1, i_X9_step.2⟩ ⟨by decide, rfl⟩ (congrArg Prod.fst (J.1.1 68 (9, 6) rfl)) rfl (by decide) rfl rfl ⟨by decide, by decide⟩ (sf_X9_step_r68  hD J z1 z0 (by omega)  (fun h J S1 u2 u3 qu2 qu3 ru2 => ?_))
  have Sm := jSm_tr rfl Sm S1
  have eu2 := (show 0 ≤ u2.toInt ∧ u2.toInt ≤ 3 from qu2 ▸ jrg_f J sg_68_5_6_1_0_1)
  have eu3 := (show 0 ≤ u3.toInt ∧ u3.toInt ≤ 400 from qu3 ▸ jrg_f J sg_68_3_4_1_0_1)
  show jX m_X2_readPlain 11 0 0 40 [(2, .int 0), (0, .ref 95), (1, .int 6), (3, .int l3)] [] _ 0 0 _
  refine z_iinc (x := l3) (lsx9 := fun v4 => [(3, .int v4), (2, .int 0), (0, .ref 95), (1, .int 6)]) rfl rfl rfl jko_1 (by omega) rfl (fun _ => rfl) (fun v4 ev4 => ?_)
  refine x_goto (tgt := 4) rfl rfl ?_
  exact jX.sub (jsb_c rfl (jsb_c rfl (jsb_c rfl (jsb_c rfl jsb_n)))) (k4 0 v4 u3 u2 h (by omega) (jr_of jk_0 (by omega)) (jr_of rfl (by omega)) (jr_of rfl (by omega)) (jr_of rfl (by omega)) (by omega) qu3 qu2 J Sm)
set_option maxRecDepth 100000 in
set_option maxHeartbeats 4000000 in
theorem ct_X2_readPlain_r95_c6_4 {Dy : jH → Prop} {h0 : jH} {Q : Option Value → jH → Prop} (hD : jDk Dy) (hQ : ∀ (v : Int32) hx9, 0 ≤ v.toInt ∧ v.toInt ≤ 1 → jJ jSgX Dy hx9 → jSm fp_X2_readPlain_r95_c6 h0 hx9 → ∀ u0 u1 : Int32, jiv hx9 68 5 = u0 → jiv hx9 68 3 = u1 → (u0.toInt ≠ 3 ∨ u1.toInt ≤ 399) → Q (some (.int v)) hx9) : ∀ r : Nat, ∀ (l2 : Int32) (l3 : Int32) (g0 : Int32) (g1 : Int32) (h : jH), 400 - l3.toInt < (r : Int) → 0 ≤ l2.toInt ∧ l2.toInt ≤ 1 → 0 ≤ l3.toInt ∧ l3.toInt ≤ 400 → 0 ≤ g0.toInt ∧ g0.toInt ≤ 400 → 0 ≤ g1.toInt ∧ g1.toInt ≤ 3 → (g1.toInt ≠ 3 ∨ g0.toInt ≤ 399) → jiv h 68 3 = g0 → jiv h 68 5 = g1 → jJ jSgX Dy h → jSm fp_X2_readPlain_r95_c6 h0 h → jX m_X2_readPlain 11 0 0 4 [(0, .ref 95), (1, .int 6), (2, .int l2), (3, .int l3)] [] h 0 0 Q := by
  intro r
  induction r with
  | zero =>
    intro l2 l3 g0 g1 h hm y0 y1 y2 y3 y4 z0 z1  J Sm
    exfalso
    omega
  | succ r ih =>
    intro l2 l3 g0 g1 h hm y0 y1 y2 y3 y4 z0 z1  J Sm
    refine x_iloadn (x := l3) rfl rfl ?_
    refine x_sipush (v := 400) rfl ks_400 ?_
    refine x_icge (tgt := 46) rfl rfl (ti_ge rfl jk_400 ⟨fun c1 => ?_, fun c1 => ?_⟩)
    ·
      exact jX.sub (jsb_c rfl (jsb_c rfl (jsb_c rfl jsb_n))) (ct_X2_readPlain_r95_c6_46 hD hQ  l2 g0 g1 h (jr_of rfl (by omega)) (jr_of rfl (by omega)) (jr_of rfl (by omega)) (by omega) z0 z1 J Sm)
    ·
      refine x_aloadn (x := 95) rfl rfl ?_
      refine z_getR (N := 6) (b := 68) 2 0 rfl f_2_30 rfl J rfl 12160 ⟨rfl, rfl⟩ rfl ?_
      refine x_ldcS (jstr.getD 9 jstr_0) rfl (List.mem_of_getElem? (i := 9) rfl) rfl rfl ?_
      show jX m_X2_readPlain 11 0 0 17 [(0, .ref 95), (1, .int 6), (2, .int l2), (3, .int l3)] [.ref 14, .ref 68] _ 0 0 _
      refine x_inv (N := m_X9_wordOf) (As := [.ref 14]) (b := 68) (st := []) (dx9 := 4) (mc := 0) (ms := 0) (host := "") 9 rfl t_X9_wordOf ⟨Or.inl q_2_67, i_X9_wordOf.1, i_X9_wordOf.2⟩ ⟨by decide, rfl⟩ (congrArg Prod.fst (J.1.1 68 (9, 6) rfl)) rfl (by decide) rfl rfl ⟨by decide, by decide⟩ (sf_X9_wordOf_r68_r14  hD J  (fun v3 h J S2 => ?_))
      have ev3 := jfull v3
      have Sm := jSm_tr rfl Sm S2
      show jX m_X2_readPlain 11 0 0 20 [(0, .ref 95), (1, .int 6), (2, .int l2), (3, .int l3)] [.int v3] _ 0 0 _
      refine x_ifne (tgt := 46) rfl rfl (ti_ne rfl jk_0 ⟨fun c4 => ?_, fun c4 => ?_⟩)
      ·
        exact jX.sub (jsb_c rfl (jsb_c rfl (jsb_c rfl jsb_n))) (ct_X2_readPlain_r95_c6_46 hD hQ  l2 g0 g1 h (jr_of rfl (by omega)) (jr_of rfl (by omega)) (jr_of rfl (by omega)) (by omega) (jmc S2 rfl z0) (jmc S2 rfl z1) J Sm)
      ·
        refine x_iloadn (x := l2) rfl rfl ?_
        refine x_ifne (tgt := 31) rfl rfl (ti_ne rfl jk_0 ⟨fun c5 => ?_, fun c5 => ?_⟩)
        ·
          refine x_iconst (v := 0) rfl ki_0 ?_
          exact jX.sub (jsb_c rfl (jsb_c rfl (jsb_c rfl jsb_n))) (ct_X2_readPlain_r95_c6_200032 hD hQ ih l3 g0 g1 h (jr_of rfl (by omega)) (jr_of rfl (by omega)) (jr_of rfl (by omega)) (by omega) (jmc S2 rfl z0) (jmc S2 rfl z1) (by omega) J Sm)
        ·
          refine x_iconst (v := 1) rfl ki_1 ?_
          refine x_goto (tgt := 32) rfl rfl ?_
          exact jX.sub (jsb_c rfl (jsb_c rfl (jsb_c rfl jsb_n))) (ct_X2_readPlain_r95_c6_300032 hD hQ ih l3 g0 g1 h (jr_of rfl (by omega)) (jr_of rfl (by omega)) (jr_of rfl (by omega)) (by omega) (jmc S2 rfl z0) (jmc S2 rfl z1) (by omega) J Sm)
set_option maxRecDepth 100000 in
set_option maxHeartbeats 4000000 in
theorem sf_X2_readPlain_r95_c6 {Dy : jH → Prop} {h : jH} {Q : Option Value → jH → Prop} (hD : jDk Dy) (J : jJ jSgX Dy h) {p0 p1 : Int32} (zp0 : jiv h 68 5 = p0) (zp1 : jiv h 68 3 = p1) (rl_p0 : (p0.toInt ≠ 3 ∨ p1.toInt ≤ 399)) (hQ : ∀ (v : Int32) hx9, 0 ≤ v.toInt ∧ v.toInt ≤ 1 → jJ jSgX Dy hx9 → jSm fp_X2_readPlain_r95_c6 h hx9 → ∀ u0 u1 : Int32, jiv hx9 68 5 = u0 → jiv hx9 68 3 = u1 → (u0.toInt ≠ 3 ∨ u1.toInt ≤ 399) → Q (some (.int v)) hx9) : jC m_X2_readPlain 11 0 0 [.ref 95, .int 6] h Q := by
  refine jC.of rfl k_X2_readPlain rfl ?_
  have Sm := jSm_rf fp_X2_readPlain_r95_c6 h
  have ep0 := (show 0 ≤ p0.toInt ∧ p0.toInt ≤ 3 from zp0 ▸ jrg_f J sg_68_5_6_1_0_1)
  have ep1 := (show 0 ≤ p1.toInt ∧ p1.toInt ≤ 400 from zp1 ▸ jrg_f J sg_68_3_4_1_0_1)
  show jX m_X2_readPlain 11 0 0 0 [(0, .ref 95), (1, .int 6)] [] _ 0 0 _
  refine x_iconst (v := 0) rfl ki_0 ?_
  refine x_istoren (lsx9 := [(2, .int 0), (0, .ref 95), (1, .int 6)]) rfl rfl rfl ?_
  refine x_iconst (v := 0) rfl ki_0 ?_
  refine x_istoren (lsx9 := [(3, .int 0), (2, .int 0), (0, .ref 95), (1, .int 6)]) rfl rfl rfl ?_
  exact jX.sub (jsb_c rfl (jsb_c rfl (jsb_c rfl (jsb_c rfl jsb_n)))) (ct_X2_readPlain_r95_c6_4 hD hQ  401 0 0 p1 p0 h (by have := jk_0; omega) (jr_of jk_0 (by omega)) (jr_of jk_0 (by omega)) (jr_of rfl (by omega)) (jr_of rfl (by omega)) (by omega) zp1 zp0 J Sm)
def fp_X2_readTest_r95_c6 : jFp := [(68, 2, 3), (68, 3, 4), (68, 4, 5), (68, 5, 6), (95, 4, 5), (95, 5, 6), (97, 0, 1200)]
set_option maxRecDepth 100000 in
set_option maxHeartbeats 4000000 in
theorem ct_X2_readTest_r95_c6_77 {Dy : jH → Prop} {h0 : jH} {Q : Option Value → jH → Prop} {R4 : Int} (hD : jDk Dy) (hQ : ∀ (v : Int32) hx9, 0 ≤ v.toInt ∧ v.toInt ≤ 1 → jJ jSgX Dy hx9 → jSm fp_X2_readTest_r95_c6 h0 hx9 → ∀ u0 u1 : Int32, jiv hx9 68 5 = u0 → jiv hx9 68 3 = u1 → (u0.toInt ≠ 3 ∨ u1.toInt ≤ 399) → Q (some (.int v)) hx9) (k4 : ∀ (l2 : Int32) (l3 : Int32) (g0 : Int32) (g1 : Int32) (h : jH), 400 - l3.toInt < R4 → (-1) ≤ l2.toInt ∧ l2.toInt ≤ 1199 → 0 ≤ l3.toInt ∧ l3.toInt ≤ 400 → 0 ≤ g0.toInt ∧ g0.toInt ≤ 400 → 0 ≤ g1.toInt ∧ g1.toInt ≤ 3 → (g1.toInt ≠ 3 ∨ g0.toInt ≤ 399) → jiv h 68 3 = g0 → jiv h 68 5 = g1 → jJ jSgX Dy h → jSm fp_X2_readTest_r95_c6 h0 h → jX m_X2_readTest 12 0 0 4 [(0, .ref 95), (1, .int 6), (2, .int l2), (3, .int l3)] [] h 0 0 Q) : ∀ (l2 : Int32) (l3 : Int32) (g0 : Int32) (g1 : Int32) (h : jH), (-1) ≤ l2.toInt ∧ l2.toInt ≤ 1199 → 0 ≤ l3.toInt ∧ l3.toInt ≤ 399 → 0 ≤ g0.toInt ∧ g0.toInt ≤ 400 → 0 ≤ g1.toInt ∧ g1.toInt ≤ 3 → (g1.toInt ≠ 3 ∨ g0.toInt ≤ 399) → jiv h 68 3 = g0 → jiv h 68 5 = g1 → 400 - l3.toInt ≤ R4 → jJ jSgX Dy h → jSm fp_X2_readTest_r95_c6 h0 h → jX m_X2_readTest 12 0 0 77 [(0, .ref 95), (1, .int 6), (2, .int l2), (3, .int l3)] [] h 0 0 Q := by
  intro l2 l3 g0 g1 h y0 y1 y2 y3 y4 z0 z1 m4 J Sm
  refine x_aloadn (x := 95) rfl rfl ?_
  refine x_iloadn (x := l2) rfl rfl ?_
  refine x_inv (N := m_X2_land) (As := [.int l2]) (b := 95) (st := []) (dx9 := 1) (mc := 0) (ms := 0) (host := "") 2 rfl t_X2_land ⟨Or.inl q_2_124, i_X2_land.1, i_X2_land.2⟩ ⟨by decide, rfl⟩ (congrArg Prod.fst (J.1.1 95 (2, 6) rfl)) rfl (by decide) rfl rfl ⟨by decide, by decide⟩ (sf_X2_land_r95 (jr_of rfl (by omega)) hD J  (fun h J S1 => ?_))
  have Sm := jSm_tr rfl Sm S1
  show jX m_X2_readTest 12 0 0 82 [(0, .ref 95), (1, .int 6), (2, .int l2), (3, .int l3)] [] _ 0 0 _
  refine x_aloadn (x := 95) rfl rfl ?_
  refine z_getR (N := 6) (b := 68) 2 0 rfl f_2_30 rfl J rfl 12160 ⟨rfl, rfl⟩ rfl ?_
  refine x_ldcS (jstr.getD 12 jstr_0) rfl (List.mem_of_getElem? (i := 12) rfl) rfl rfl ?_
  show jX m_X2_readTest 12 0 0 88 [(0, .ref 95), (1, .int 6), (2, .int l2), (3, .int l3)] [.ref 17, .ref 68] _ 0 0 _
  refine x_inv (N := m_X9_wordOf) (As := [.ref 17]) (b := 68) (st := []) (dx9 := 4) (mc := 0) (ms := 0) (host := "") 9 rfl t_X9_wordOf ⟨Or.inl q_2_67, i_X9_wordOf.1, i_X9_wordOf.2⟩ ⟨by decide, rfl⟩ (congrArg Prod.fst (J.1.1 68 (9, 6) rfl)) rfl (by decide) rfl rfl ⟨by decide, by decide⟩ (sf_X9_wordOf_r68_r17  hD J  (fun v3 h J S2 => ?_))
  have ev3 := jfull v3
  have Sm := jSm_tr rfl Sm S2
  show jX m_X2_readTest 12 0 0 91 [(0, .ref 95), (1, .int 6), (2, .int l2), (3, .int l3)] [.int v3] _ 0 0 _
  refine x_ifeq (tgt := 96) rfl rfl (ti_eq rfl jk_0 ⟨fun c4 => ?_, fun c4 => ?_⟩)
  ·
    refine x_aloadn (x := 95) rfl rfl ?_
    refine x_bipush (v := 11) rfl kb_11 ?_
    refine x_inv (N := m_X2_leap) (As := [.int 11]) (b := 95) (st := []) (dx9 := 2) (mc := 0) (ms := 0) (host := "") 2 rfl t_X2_leap ⟨Or.inl q_2_129, i_X2_leap.1, i_X2_leap.2⟩ ⟨by decide, rfl⟩ (congrArg Prod.fst (J.1.1 95 (2, 6) rfl)) rfl (by decide) rfl rfl ⟨by decide, by decide⟩ (sf_X2_leap_r95 (jr_of jk_11 (by omega)) hD J  (fun v6 h ev6 J S5 => ?_))
    have Sm := jSm_tr rfl Sm S5
    show jX m_X2_readTest 12 0 0 102 [(0, .ref 95), (1, .int 6), (2, .int l2), (3, .int l3)] [.int v6] _ 0 0 _
    refine x_istoren (lsx9 := [(2, .int v6), (0, .ref 95), (1, .int 6), (3, .int l3)]) rfl rfl rfl ?_
    refine x_aloadn (x := 95) rfl rfl ?_
    refine z_getR (N := 6) (b := 68) 2 0 rfl f_2_30 rfl J rfl 12160 ⟨rfl, rfl⟩ rfl ?_
    refine x_inv (N := m_X9_step) (As := []) (b := 68) (st := []) (dx9 := 2) (mc := 0) (ms := 0) (host := "") 9 rfl t_X9_step ⟨Or.inl q_2_62, i_X9_step.1, i_X9_step.2⟩ ⟨by decide, rfl⟩ (congrArg Prod.fst (J.1.1 68 (9, 6) rfl)) rfl (by decide) rfl rfl ⟨by decide, by decide⟩ (sf_X9_step_r68  hD J (jmc S5 rfl (jmc S2 rfl (jmc S1 rfl z1))) (jmc S5 rfl (jmc S2 rfl (jmc S1 rfl z0))) (by omega)  (fun h J S7 u8 u9 qu8 qu9 ru8 => ?_))
    have Sm := jSm_tr rfl Sm S7
    have eu8 := (show 0 ≤ u8.toInt ∧ u8.toInt ≤ 3 from qu8 ▸ jrg_f J sg_68_5_6_1_0_1)
    have eu9 := (show 0 ≤ u9.toInt ∧ u9.toInt ≤ 400 from qu9 ▸ jrg_f J sg_68_3_4_1_0_1)
    show jX m_X2_readTest 12 0 0 110 [(2, .int v6), (0, .ref 95), (1, .int 6), (3, .int l3)] [] _ 0 0 _
    refine z_iinc (x := l3) (lsx9 := fun v10 => [(3, .int v10), (2, .int v6), (0, .ref 95), (1, .int 6)]) rfl rfl rfl jko_1 (by omega) rfl (fun _ => rfl) (fun v10 ev10 => ?_)
    refine x_goto (tgt := 4) rfl rfl ?_
    exact jX.sub (jsb_c rfl (jsb_c rfl (jsb_c rfl (jsb_c rfl jsb_n)))) (k4 v6 v10 u9 u8 h (by omega) (jr_of rfl (by omega)) (jr_of rfl (by omega)) (jr_of rfl (by omega)) (jr_of rfl (by omega)) (by omega) qu9 qu8 J Sm)
  ·
    refine x_iconst (v := 1) rfl ki_1 ?_
    refine x_zret rfl rfl (by decide) ?_
    exact hQ _ _ (jr_of jk_1 (by omega)) J Sm _ _ (jmc S2 rfl (jmc S1 rfl z1)) (jmc S2 rfl (jmc S1 rfl z0)) (by omega)
set_option maxRecDepth 100000 in
set_option maxHeartbeats 4000000 in
theorem ct_X2_readTest_r95_c6_17 {Dy : jH → Prop} {h0 : jH} {Q : Option Value → jH → Prop} {R4 : Int} (hD : jDk Dy) (hQ : ∀ (v : Int32) hx9, 0 ≤ v.toInt ∧ v.toInt ≤ 1 → jJ jSgX Dy hx9 → jSm fp_X2_readTest_r95_c6 h0 hx9 → ∀ u0 u1 : Int32, jiv hx9 68 5 = u0 → jiv hx9 68 3 = u1 → (u0.toInt ≠ 3 ∨ u1.toInt ≤ 399) → Q (some (.int v)) hx9) (k4 : ∀ (l2 : Int32) (l3 : Int32) (g0 : Int32) (g1 : Int32) (h : jH), 400 - l3.toInt < R4 → (-1) ≤ l2.toInt ∧ l2.toInt ≤ 1199 → 0 ≤ l3.toInt ∧ l3.toInt ≤ 400 → 0 ≤ g0.toInt ∧ g0.toInt ≤ 400 → 0 ≤ g1.toInt ∧ g1.toInt ≤ 3 → (g1.toInt ≠ 3 ∨ g0.toInt ≤ 399) → jiv h 68 3 = g0 → jiv h 68 5 = g1 → jJ jSgX Dy h → jSm fp_X2_readTest_r95_c6 h0 h → jX m_X2_readTest 12 0 0 4 [(0, .ref 95), (1, .int 6), (2, .int l2), (3, .int l3)] [] h 0 0 Q) : ∀ r : Nat, ∀ (l2 : Int32) (l3 : Int32) (l4 : Int32) (l5 : Int32) (g0 : Int32) (g1 : Int32) (h : jH), 400 - l5.toInt < (r : Int) → (-1) ≤ l2.toInt ∧ l2.toInt ≤ 1199 → 0 ≤ l3.toInt ∧ l3.toInt ≤ 399 → (-1) ≤ l4.toInt ∧ l4.toInt ≤ 1199 → 0 ≤ l5.toInt ∧ l5.toInt ≤ 400 → 0 ≤ g0.toInt ∧ g0.toInt ≤ 400 → 0 ≤ g1.toInt ∧ g1.toInt ≤ 3 → (g1.toInt ≠ 3 ∨ g0.toInt ≤ 399) → jiv h 68 3 = g0 → jiv h 68 5 = g1 → 400 - l3.toInt ≤ R4 → jJ jSgX Dy h → jSm fp_X2_readTest_r95_c6 h0 h → jX m_X2_readTest 12 0 0 17 [(0, .ref 95), (1, .int 6), (2, .int l2), (3, .int l3), (4, .int l4), (5, .int l5)] [] h 0 0 Q := by
  intro r
  induction r with
  | zero =>
    intro l2 l3 l4 l5 g0 g1 h hm y0 y1 y2 y3 y4 y5 y6 z0 z1 m4 J Sm
    exfalso
    omega
  | succ r ih =>
    intro l2 l3 l4 l5 g0 g1 h hm y0 y1 y2 y3 y4 y5 y6 z0 z1 m4 J Sm
    refine x_iload (x := l5) rfl rfl ?_
    refine x_sipush (v := 400) rfl ks_400 ?_
    refine x_icge (tgt := 77) rfl rfl (ti_ge rfl jk_400 ⟨fun c1 => ?_, fun c1 => ?_⟩)
    ·
      exact jX.sub (jsb_c rfl (jsb_c rfl (jsb_c rfl (jsb_c rfl jsb_n)))) (ct_X2_readTest_r95_c6_77 hD hQ k4 l2 l3 g0 g1 h (jr_of rfl (by omega)) (jr_of rfl (by omega)) (jr_of rfl (by omega)) (jr_of rfl (by omega)) (by omega) z0 z1 (by omega) J Sm)
    ·
      refine x_aloadn (x := 95) rfl rfl ?_
      refine x_iloadn (x := 6) rfl rfl ?_
      refine x_inv (N := m_X2_readPlain) (As := [.int 6]) (b := 95) (st := []) (dx9 := 11) (mc := 0) (ms := 0) (host := "") 2 rfl t_X2_readPlain ⟨Or.inl q_2_121, i_X2_readPlain.1, i_X2_readPlain.2⟩ ⟨by decide, rfl⟩ (congrArg Prod.fst (J.1.1 95 (2, 6) rfl)) rfl (by decide) rfl rfl ⟨by decide, by decide⟩ (sf_X2_readPlain_r95_c6  hD J z1 z0 (by omega)  (fun v5 h ev5 J S2 u3 u4 qu3 qu4 ru3 => ?_))
      have Sm := jSm_tr rfl Sm S2
      have eu3 := (show 0 ≤ u3.toInt ∧ u3.toInt ≤ 3 from qu3 ▸ jrg_f J sg_68_5_6_1_0_1)
      have eu4 := (show 0 ≤ u4.toInt ∧ u4.toInt ≤ 400 from qu4 ▸ jrg_f J sg_68_3_4_1_0_1)
      show jX m_X2_readTest 12 0 0 30 [(0, .ref 95), (1, .int 6), (2, .int l2), (3, .int l3), (4, .int l4), (5, .int l5)] [.int v5] _ 0 0 _
      refine x_ifne (tgt := 35) rfl rfl (ti_ne rfl jk_0 ⟨fun c6 => ?_, fun c6 => ?_⟩)
      ·
        refine x_aloadn (x := 95) rfl rfl ?_
        refine x_iload (x := l4) rfl rfl ?_
        refine x_inv (N := m_X2_land) (As := [.int l4]) (b := 95) (st := []) (dx9 := 1) (mc := 0) (ms := 0) (host := "") 2 rfl t_X2_land ⟨Or.inl q_2_124, i_X2_land.1, i_X2_land.2⟩ ⟨by decide, rfl⟩ (congrArg Prod.fst (J.1.1 95 (2, 6) rfl)) rfl (by decide) rfl rfl ⟨by decide, by decide⟩ (sf_X2_land_r95 (jr_of rfl (by omega)) hD J  (fun h J S7 => ?_))
        have Sm := jSm_tr rfl Sm S7
        show jX m_X2_readTest 12 0 0 41 [(0, .ref 95), (1, .int 6), (2, .int l2), (3, .int l3), (4, .int l4), (5, .int l5)] [] _ 0 0 _
        refine x_aloadn (x := 95) rfl rfl ?_
        refine z_getR (N := 6) (b := 68) 2 0 rfl f_2_30 rfl J rfl 12160 ⟨rfl, rfl⟩ rfl ?_
        refine x_ldcS (jstr.getD 11 jstr_0) rfl (List.mem_of_getElem? (i := 11) rfl) rfl rfl ?_
        show jX m_X2_readTest 12 0 0 47 [(0, .ref 95), (1, .int 6), (2, .int l2), (3, .int l3), (4, .int l4), (5, .int l5)] [.ref 16, .ref 68] _ 0 0 _
        refine x_inv (N := m_X9_wordOf) (As := [.ref 16]) (b := 68) (st := []) (dx9 := 4) (mc := 0) (ms := 0) (host := "") 9 rfl t_X9_wordOf ⟨Or.inl q_2_67, i_X9_wordOf.1, i_X9_wordOf.2⟩ ⟨by decide, rfl⟩ (congrArg Prod.fst (J.1.1 68 (9, 6) rfl)) rfl (by decide) rfl rfl ⟨by decide, by decide⟩ (sf_X9_wordOf_r68_r16  hD J  (fun v9 h J S8 => ?_))
        have ev9 := jfull v9
        have Sm := jSm_tr rfl Sm S8
        show jX m_X2_readTest 12 0 0 50 [(0, .ref 95), (1, .int 6), (2, .int l2), (3, .int l3), (4, .int l4), (5, .int l5)] [.int v9] _ 0 0 _
        refine x_ifeq (tgt := 56) rfl rfl (ti_eq rfl jk_0 ⟨fun c10 => ?_, fun c10 => ?_⟩)
        ·
          refine x_aloadn (x := 95) rfl rfl ?_
          refine x_bipush (v := 12) rfl kb_12 ?_
          refine x_inv (N := m_X2_leap) (As := [.int 12]) (b := 95) (st := []) (dx9 := 2) (mc := 0) (ms := 0) (host := "") 2 rfl t_X2_leap ⟨Or.inl q_2_129, i_X2_leap.1, i_X2_leap.2⟩ ⟨by decide, rfl⟩ (congrArg Prod.fst (J.1.1 95 (2, 6) rfl)) rfl (by decide) rfl rfl ⟨by decide, by decide⟩ (sf_X2_leap_r95 (jr_of jk_12 (by omega)) hD J  (fun v12 h ev12 J S11 => ?_))
          have Sm := jSm_tr rfl Sm S11
          show jX m_X2_readTest 12 0 0 62 [(0, .ref 95), (1, .int 6), (2, .int l2), (3, .int l3), (4, .int l4), (5, .int l5)] [.int v12] _ 0 0 _
          refine x_istore (lsx9 := [(4, .int v12), (0, .ref 95), (1, .int 6), (2, .int l2), (3, .int l3), (5, .int l5)]) rfl rfl rfl ?_
          refine x_aloadn (x := 95) rfl rfl ?_
          refine z_getR (N := 6) (b := 68) 2 0 rfl f_2_30 rfl J rfl 12160 ⟨rfl, rfl⟩ rfl ?_
          refine x_inv (N := m_X9_step) (As := []) (b := 68) (st := []) (dx9 := 2) (mc := 0) (ms := 0) (host := "") 9 rfl t_X9_step ⟨Or.inl q_2_62, i_X9_step.1, i_X9_step.2⟩ ⟨by decide, rfl⟩ (congrArg Prod.fst (J.1.1 68 (9, 6) rfl)) rfl (by decide) rfl rfl ⟨by decide, by decide⟩ (sf_X9_step_r68  hD J (jmc S11 rfl (jmc S8 rfl (jmc S7 rfl qu3))) (jmc S11 rfl (jmc S8 rfl (jmc S7 rfl qu4))) (by omega)  (fun h J S13 u14 u15 qu14 qu15 ru14 => ?_))
          have Sm := jSm_tr rfl Sm S13
          have eu14 := (show 0 ≤ u14.toInt ∧ u14.toInt ≤ 3 from qu14 ▸ jrg_f J sg_68_5_6_1_0_1)
          have eu15 := (show 0 ≤ u15.toInt ∧ u15.toInt ≤ 400 from qu15 ▸ jrg_f J sg_68_3_4_1_0_1)
          show jX m_X2_readTest 12 0 0 71 [(4, .int v12), (0, .ref 95), (1, .int 6), (2, .int l2), (3, .int l3), (5, .int l5)] [] _ 0 0 _
          refine z_iinc (x := l5) (lsx9 := fun v16 => [(5, .int v16), (4, .int v12), (0, .ref 95), (1, .int 6), (2, .int l2), (3, .int l3)]) rfl rfl rfl jko_1 (by omega) rfl (fun _ => rfl) (fun v16 ev16 => ?_)
          refine x_goto (tgt := 17) rfl rfl ?_
          exact jX.sub (jsb_c rfl (jsb_c rfl (jsb_c rfl (jsb_c rfl (jsb_c rfl (jsb_c rfl jsb_n)))))) (ih l2 l3 v12 v16 u15 u14 h (by omega) (jr_of rfl (by omega)) (jr_of rfl (by omega)) (jr_of rfl (by omega)) (jr_of rfl (by omega)) (jr_of rfl (by omega)) (jr_of rfl (by omega)) (by omega) qu15 qu14 (by omega) J Sm)
        ·
          refine x_goto (tgt := 77) rfl rfl ?_
          exact jX.sub (jsb_c rfl (jsb_c rfl (jsb_c rfl (jsb_c rfl jsb_n)))) (ct_X2_readTest_r95_c6_77 hD hQ k4 l2 l3 u4 u3 h (jr_of rfl (by omega)) (jr_of rfl (by omega)) (jr_of rfl (by omega)) (jr_of rfl (by omega)) (by omega) (jmc S8 rfl (jmc S7 rfl qu4)) (jmc S8 rfl (jmc S7 rfl qu3)) (by omega) J Sm)
      ·
        refine x_iconst (v := 0) rfl ki_0 ?_
        refine x_zret rfl rfl (by decide) ?_
        exact hQ _ _ (jr_of jk_0 (by omega)) J Sm _ _ qu3 qu4 (by omega)
set_option maxRecDepth 100000 in
set_option maxHeartbeats 4000000 in
theorem ct_X2_readTest_r95_c6_4 {Dy : jH → Prop} {h0 : jH} {Q : Option Value → jH → Prop} (hD : jDk Dy) (hQ : ∀ (v : Int32) hx9, 0 ≤ v.toInt ∧ v.toInt ≤ 1 → jJ jSgX Dy hx9 → jSm fp_X2_readTest_r95_c6 h0 hx9 → ∀ u0 u1 : Int32, jiv hx9 68 5 = u0 → jiv hx9 68 3 = u1 → (u0.toInt ≠ 3 ∨ u1.toInt ≤ 399) → Q (some (.int v)) hx9) : ∀ r : Nat, ∀ (l2 : Int32) (l3 : Int32) (g0 : Int32) (g1 : Int32) (h : jH), 400 - l3.toInt < (r : Int) → (-1) ≤ l2.toInt ∧ l2.toInt ≤ 1199 → 0 ≤ l3.toInt ∧ l3.toInt ≤ 400 → 0 ≤ g0.toInt ∧ g0.toInt ≤ 400 → 0 ≤ g1.toInt ∧ g1.toInt ≤ 3 → (g1.toInt ≠ 3 ∨ g0.toInt ≤ 399) → jiv h 68 3 = g0 → jiv h 68 5 = g1 → jJ jSgX Dy h → jSm fp_X2_readTest_r95_c6 h0 h → jX m_X2_readTest 12 0 0 4 [(0, .ref 95), (1, .int 6), (2, .int l2), (3, .int l3)] [] h 0 0 Q := by
  intro r
  induction r with
  | zero =>
    intro l2 l3 g0 g1 h hm y0 y1 y2 y3 y4 z0 z1  J Sm
    exfalso
    omega
  | succ r ih =>
    intro l2 l3 g0 g1 h hm y0 y1 y2 y3 y4 z0 z1  J Sm
    refine x_iloadn (x := l3) rfl rfl ?_
    refine x_sipush (v := 400) rfl ks_400 ?_
    refine x_icge (tgt := 116) rfl rfl (ti_ge rfl jk_400 ⟨fun c1 => ?_, fun c1 => ?_⟩)
    ·
      refine x_aloadn (x := 95) rfl rfl ?_
      refine z_getR (N := 6) (b := 68) 2 0 rfl f_2_30 rfl J rfl 12160 ⟨rfl, rfl⟩ rfl ?_
      refine x_inv (N := m_X9_blame) (As := []) (b := 68) (st := []) (dx9 := 11) (mc := 0) (ms := 0) (host := "") 9 rfl t_X9_blame ⟨Or.inl q_2_59, i_X9_blame.1, i_X9_blame.2⟩ ⟨by decide, rfl⟩ (congrArg Prod.fst (J.1.1 68 (9, 6) rfl)) rfl (by decide) rfl rfl ⟨by decide, by decide⟩ (jC.of rfl k_X9_blame rfl ?_)
      show jX m_X9_blame 11 0 0 0 [(0, .ref 68)] [] _ 0 0 _
      refine x_aloadn (x := 68) rfl rfl ?_
      refine x_aloadn (x := 68) rfl rfl ?_
      refine z_getM (N := 6) (v := g0) 9 3 rfl f_9_22 rfl J rfl z0 ?_
      refine z_putI (N := 6) (w := g0.toInt) 9 2 rfl f_9_19 rfl (jfin_no TX9 RX9 6 rfl rfl) hD J Sm rfl rfl rfl (pw_68_2 (by omega)) rfl (fun h w2 J Sm => ?_)
      refine x_iconst (v := 0) rfl ki_0 ?_
      refine x_zret rfl rfl (by decide) ?_
      show jX m_X2_readTest 12 0 0 123 [(0, .ref 95), (1, .int 6), (2, .int l2), (3, .int l3)] [.int 0] _ 0 0 _
      refine x_zret rfl rfl (by decide) ?_
      exact hQ _ _ (jr_of jk_0 (by omega)) J Sm _ _ (jmo w2 rfl z1) (jmo w2 rfl z0) (by omega)
    ·
      refine x_iconst (v := (-1)) rfl ki_m1 ?_
      refine x_istore (lsx9 := [(4, .int (-1)), (0, .ref 95), (1, .int 6), (2, .int l2), (3, .int l3)]) rfl rfl rfl ?_
      refine x_iconst (v := 0) rfl ki_0 ?_
      refine x_istore (lsx9 := [(5, .int 0), (4, .int (-1)), (0, .ref 95), (1, .int 6), (2, .int l2), (3, .int l3)]) rfl rfl rfl ?_
      exact jX.sub (jsb_c rfl (jsb_c rfl (jsb_c rfl (jsb_c rfl (jsb_c rfl (jsb_c rfl jsb_n)))))) (ct_X2_readTest_r95_c6_17 hD hQ ih 401 l2 l3 (-1) 0 g0 g1 h (by have := jk_0; omega) (jr_of rfl (by omega)) (jr_of rfl (by omega)) (jr_of jk_m1 (by omega)) (jr_of jk_0 (by omega)) (jr_of rfl (by omega)) (jr_of rfl (by omega)) (by omega) z0 z1 (by omega) J Sm)
set_option maxRecDepth 100000 in
set_option maxHeartbeats 4000000 in
theorem sf_X2_readTest_r95_c6 {Dy : jH → Prop} {h : jH} {Q : Option Value → jH → Prop} (hD : jDk Dy) (J : jJ jSgX Dy h) {p0 p1 : Int32} (zp0 : jiv h 68 5 = p0) (zp1 : jiv h 68 3 = p1) (rl_p0 : (p0.toInt ≠ 3 ∨ p1.toInt ≤ 399)) (hQ : ∀ (v : Int32) hx9, 0 ≤ v.toInt ∧ v.toInt ≤ 1 → jJ jSgX Dy hx9 → jSm fp_X2_readTest_r95_c6 h hx9 → ∀ u0 u1 : Int32, jiv hx9 68 5 = u0 → jiv hx9 68 3 = u1 → (u0.toInt ≠ 3 ∨ u1.toInt ≤ 399) → Q (some (.int v)) hx9) : jC m_X2_readTest 12 0 0 [.ref 95, .int 6] h Q := by
  refine jC.of rfl k_X2_readTest rfl ?_
  have Sm := jSm_rf fp_X2_readTest_r95_c6 h
  have ep0 := (show 0 ≤ p0.toInt ∧ p0.toInt ≤ 3 from zp0 ▸ jrg_f J sg_68_5_6_1_0_1)
  have ep1 := (show 0 ≤ p1.toInt ∧ p1.toInt ≤ 400 from zp1 ▸ jrg_f J sg_68_3_4_1_0_1)
  show jX m_X2_readTest 12 0 0 0 [(0, .ref 95), (1, .int 6)] [] _ 0 0 _
  refine x_iconst (v := (-1)) rfl ki_m1 ?_
  refine x_istoren (lsx9 := [(2, .int (-1)), (0, .ref 95), (1, .int 6)]) rfl rfl rfl ?_
  refine x_iconst (v := 0) rfl ki_0 ?_
  refine x_istoren (lsx9 := [(3, .int 0), (2, .int (-1)), (0, .ref 95), (1, .int 6)]) rfl rfl rfl ?_
  exact jX.sub (jsb_c rfl (jsb_c rfl (jsb_c rfl (jsb_c rfl jsb_n)))) (ct_X2_readTest_r95_c6_4 hD hQ  401 (-1) 0 p1 p0 h (by have := jk_0; omega) (jr_of jk_m1 (by omega)) (jr_of jk_0 (by omega)) (jr_of rfl (by omega)) (jr_of rfl (by omega)) (by omega) zp1 zp0 J Sm)
def fp_X2_readPlain_r95_c5 : jFp := [(68, 2, 3), (68, 3, 4), (68, 4, 5), (68, 5, 6), (95, 4, 5), (95, 5, 6), (97, 0, 1200)]
set_option maxRecDepth 100000 in
set_option maxHeartbeats 4000000 in
theorem ct_X2_readPlain_r95_c5_239 {Dy : jH → Prop} {h0 : jH} {Q : Option Value → jH → Prop} (hD : jDk Dy) (hQ : ∀ (v : Int32) hx9, 0 ≤ v.toInt ∧ v.toInt ≤ 1 → jJ jSgX Dy hx9 → jSm fp_X2_readPlain_r95_c5 h0 hx9 → ∀ u0 u1 : Int32, jiv hx9 68 5 = u0 → jiv hx9 68 3 = u1 → (u0.toInt ≠ 3 ∨ u1.toInt ≤ 399) → Q (some (.int v)) hx9) : ∀ (g0 : Int32) (g1 : Int32) (h : jH), 0 ≤ g0.toInt ∧ g0.toInt ≤ 400 → 0 ≤ g1.toInt ∧ g1.toInt ≤ 3 → (g1.toInt ≠ 3 ∨ g0.toInt ≤ 399) → jiv h 68 3 = g0 → jiv h 68 5 = g1 → jJ jSgX Dy h → jSm fp_X2_readPlain_r95_c5 h0 h → jX m_X2_readPlain 13 0 0 239 [] [] h 0 0 Q := by
  intro g0 g1 h y0 y1 y2 z0 z1  J Sm
  refine x_iconst (v := 1) rfl ki_1 ?_
  refine x_zret rfl rfl (by decide) ?_
  exact hQ _ _ (jr_of jk_1 (by omega)) J Sm _ _ z1 z0 (by omega)
set_option maxRecDepth 100000 in
set_option maxHeartbeats 4000000 in
theorem ct_X2_readPlain_r95_c5_229 {Dy : jH → Prop} {h0 : jH} {Q : Option Value → jH → Prop} (hD : jDk Dy) (hQ : ∀ (v : Int32) hx9, 0 ≤ v.toInt ∧ v.toInt ≤ 1 → jJ jSgX Dy hx9 → jSm fp_X2_readPlain_r95_c5 h0 hx9 → ∀ u0 u1 : Int32, jiv hx9 68 5 = u0 → jiv hx9 68 3 = u1 → (u0.toInt ≠ 3 ∨ u1.toInt ≤ 399) → Q (some (.int v)) hx9) : ∀ (l2 : Int32) (g0 : Int32) (g1 : Int32) (h : jH), 0 ≤ l2.toInt ∧ l2.toInt ≤ 1 → 0 ≤ g0.toInt ∧ g0.toInt ≤ 400 → 0 ≤ g1.toInt ∧ g1.toInt ≤ 3 → (g1.toInt ≠ 3 ∨ g0.toInt ≤ 399) → jiv h 68 3 = g0 → jiv h 68 5 = g1 → jJ jSgX Dy h → jSm fp_X2_readPlain_r95_c5 h0 h → jX m_X2_readPlain 13 0 0 229 [(0, .ref 95), (2, .int l2)] [] h 0 0 Q := by
  intro l2 g0 g1 h y0 y1 y2 y3 z0 z1  J Sm
  refine x_iloadn (x := l2) rfl rfl ?_
  refine x_ifeq (tgt := 239) rfl rfl (ti_eq rfl jk_0 ⟨fun c1 => ?_, fun c1 => ?_⟩)
  ·
    exact jX.sub jsb_n (ct_X2_readPlain_r95_c5_239 hD hQ  g0 g1 h (jr_of rfl (by omega)) (jr_of rfl (by omega)) (by omega) z0 z1 J Sm)
  ·
    refine x_aloadn (x := 95) rfl rfl ?_
    refine x_bipush (v := 10) rfl kb_10 ?_
    refine x_inv (N := m_X2_emit) (As := [.int 10]) (b := 95) (st := []) (dx9 := 1) (mc := 0) (ms := 0) (host := "") 2 rfl t_X2_emit ⟨Or.inl q_2_89, i_X2_emit.1, i_X2_emit.2⟩ ⟨by decide, rfl⟩ (congrArg Prod.fst (J.1.1 95 (2, 6) rfl)) rfl (by decide) rfl rfl ⟨by decide, by decide⟩ (sf_X2_emit_r95  hD J  (fun h J S2 => ?_))
    have Sm := jSm_tr rfl Sm S2
    show jX m_X2_readPlain 13 0 0 239 [(0, .ref 95), (2, .int l2)] [] _ 0 0 _
    exact jX.sub jsb_n (ct_X2_readPlain_r95_c5_239 hD hQ  g0 g1 h (jr_of rfl (by omega)) (jr_of rfl (by omega)) (by omega) (jmc S2 rfl z0) (jmc S2 rfl z1) J Sm)
set_option maxRecDepth 100000 in
set_option maxHeartbeats 4000000 in
theorem ct_X2_readPlain_r95_c5_100190 {Dy : jH → Prop} {h0 : jH} {Q : Option Value → jH → Prop} (hD : jDk Dy) (hQ : ∀ (v : Int32) hx9, 0 ≤ v.toInt ∧ v.toInt ≤ 1 → jJ jSgX Dy hx9 → jSm fp_X2_readPlain_r95_c5 h0 hx9 → ∀ u0 u1 : Int32, jiv hx9 68 5 = u0 → jiv hx9 68 3 = u1 → (u0.toInt ≠ 3 ∨ u1.toInt ≤ 399) → Q (some (.int v)) hx9) : ∀ (l2 : Int32) (g0 : Int32) (g1 : Int32) (h : jH), 0 ≤ l2.toInt ∧ l2.toInt ≤ 1 → 0 ≤ g0.toInt ∧ g0.toInt ≤ 400 → 0 ≤ g1.toInt ∧ g1.toInt ≤ 3 → (g1.toInt ≠ 3 ∨ g0.toInt ≤ 399) → jiv h 68 3 = g0 → jiv h 68 5 = g1 → jJ jSgX Dy h → jSm fp_X2_readPlain_r95_c5 h0 h → jX m_X2_readPlain 13 0 0 190 [(0, .ref 95), (1, .int 5), (2, .int l2)] [.int (-1)] h 0 0 Q := by
  intro l2 g0 g1 h y0 y1 y2 y3 z0 z1  J Sm
  refine x_istore (lsx9 := [(4, .int (-1)), (0, .ref 95), (1, .int 5), (2, .int l2)]) rfl rfl rfl ?_
  refine x_iload (x := (-1)) rfl rfl ?_
  refine x_iconst (v := (-1)) rfl ki_m1 ?_
  refine x_icne (tgt := 206) rfl rfl (ti_ne jk_m1 jk_m1 (bn_f (by omega) ?_))
  refine x_aloadn (x := 95) rfl rfl ?_
  refine z_getR (N := 6) (b := 68) 2 0 rfl f_2_30 rfl J rfl 12160 ⟨rfl, rfl⟩ rfl ?_
  refine x_inv (N := m_X9_blame) (As := []) (b := 68) (st := []) (dx9 := 12) (mc := 0) (ms := 0) (host := "") 9 rfl t_X9_blame ⟨Or.inl q_2_59, i_X9_blame.1, i_X9_blame.2⟩ ⟨by decide, rfl⟩ (congrArg Prod.fst (J.1.1 68 (9, 6) rfl)) rfl (by decide) rfl rfl ⟨by decide, by decide⟩ (jC.of rfl k_X9_blame rfl ?_)
  show jX m_X9_blame 12 0 0 0 [(0, .ref 68)] [] _ 0 0 _
  refine x_aloadn (x := 68) rfl rfl ?_
  refine x_aloadn (x := 68) rfl rfl ?_
  refine z_getM (N := 6) (v := g0) 9 3 rfl f_9_22 rfl J rfl z0 ?_
  refine z_putI (N := 6) (w := g0.toInt) 9 2 rfl f_9_19 rfl (jfin_no TX9 RX9 6 rfl rfl) hD J Sm rfl rfl rfl (pw_68_2 (by omega)) rfl (fun h w1 J Sm => ?_)
  refine x_iconst (v := 0) rfl ki_0 ?_
  refine x_zret rfl rfl (by decide) ?_
  show jX m_X2_readPlain 13 0 0 205 [(4, .int (-1)), (0, .ref 95), (1, .int 5), (2, .int l2)] [.int 0] _ 0 0 _
  refine x_zret rfl rfl (by decide) ?_
  exact hQ _ _ (jr_of jk_0 (by omega)) J Sm _ _ (jmo w1 rfl z1) (jmo w1 rfl z0) (by omega)
set_option maxRecDepth 100000 in
set_option maxHeartbeats 4000000 in
theorem ct_X2_readPlain_r95_c5_190 {Dy : jH → Prop} {h0 : jH} {Q : Option Value → jH → Prop} (hD : jDk Dy) (hQ : ∀ (v : Int32) hx9, 0 ≤ v.toInt ∧ v.toInt ≤ 1 → jJ jSgX Dy hx9 → jSm fp_X2_readPlain_r95_c5 h0 hx9 → ∀ u0 u1 : Int32, jiv hx9 68 5 = u0 → jiv hx9 68 3 = u1 → (u0.toInt ≠ 3 ∨ u1.toInt ≤ 399) → Q (some (.int v)) hx9) : ∀ (l2 : Int32) (g0 : Int32) (g1 : Int32) (h : jH), 0 ≤ l2.toInt ∧ l2.toInt ≤ 1 → 0 ≤ g0.toInt ∧ g0.toInt ≤ 400 → 0 ≤ g1.toInt ∧ g1.toInt ≤ 3 → (g1.toInt ≠ 3 ∨ g0.toInt ≤ 399) → jiv h 68 3 = g0 → jiv h 68 5 = g1 → jJ jSgX Dy h → jSm fp_X2_readPlain_r95_c5 h0 h → jX m_X2_readPlain 13 0 0 190 [(0, .ref 95), (1, .int 5), (2, .int l2)] [.int 9] h 0 0 Q := by
  intro l2 g0 g1 h y0 y1 y2 y3 z0 z1  J Sm
  refine x_istore (lsx9 := [(4, .int 9), (0, .ref 95), (1, .int 5), (2, .int l2)]) rfl rfl rfl ?_
  refine x_iload (x := 9) rfl rfl ?_
  refine x_iconst (v := (-1)) rfl ki_m1 ?_
  refine x_icne (tgt := 206) rfl rfl (ti_ne jk_9 jk_m1 (bn_t (by omega) ?_))
  refine x_aloadn (x := 95) rfl rfl ?_
  refine z_getR (N := 6) (b := 68) 2 0 rfl f_2_30 rfl J rfl 12160 ⟨rfl, rfl⟩ rfl ?_
  refine x_inv (N := m_X9_step) (As := []) (b := 68) (st := []) (dx9 := 2) (mc := 0) (ms := 0) (host := "") 9 rfl t_X9_step ⟨Or.inl q_2_62, i_X9_step.1, i_X9_step.2⟩ ⟨by decide, rfl⟩ (congrArg Prod.fst (J.1.1 68 (9, 6) rfl)) rfl (by decide) rfl rfl ⟨by decide, by decide⟩ (sf_X9_step_r68  hD J z1 z0 (by omega)  (fun h J S1 u2 u3 qu2 qu3 ru2 => ?_))
  have Sm := jSm_tr rfl Sm S1
  have eu2 := (show 0 ≤ u2.toInt ∧ u2.toInt ≤ 3 from qu2 ▸ jrg_f J sg_68_5_6_1_0_1)
  have eu3 := (show 0 ≤ u3.toInt ∧ u3.toInt ≤ 400 from qu3 ▸ jrg_f J sg_68_3_4_1_0_1)
  show jX m_X2_readPlain 13 0 0 213 [(4, .int 9), (0, .ref 95), (1, .int 5), (2, .int l2)] [] _ 0 0 _
  refine x_aloadn (x := 95) rfl rfl ?_
  refine x_iloadn (x := 5) rfl rfl ?_
  refine x_inv (N := m_X2_readSum) (As := [.int 5]) (b := 95) (st := []) (dx9 := 12) (mc := 0) (ms := 0) (host := "") 2 rfl t_X2_readSum ⟨Or.inl q_2_86, i_X2_readSum.1, i_X2_readSum.2⟩ ⟨by decide, rfl⟩ (congrArg Prod.fst (J.1.1 95 (2, 6) rfl)) rfl (by decide) rfl rfl ⟨by decide, by decide⟩ (sf_X2_readSum_r95_c5  hD J qu2 qu3 (by omega)  (fun v7 h ev7 J S4 u5 u6 qu5 qu6 ru5 => ?_))
  have Sm := jSm_tr rfl Sm S4
  have eu5 := (show 0 ≤ u5.toInt ∧ u5.toInt ≤ 3 from qu5 ▸ jrg_f J sg_68_5_6_1_0_1)
  have eu6 := (show 0 ≤ u6.toInt ∧ u6.toInt ≤ 400 from qu6 ▸ jrg_f J sg_68_3_4_1_0_1)
  show jX m_X2_readPlain 13 0 0 218 [(4, .int 9), (0, .ref 95), (1, .int 5), (2, .int l2)] [.int v7] _ 0 0 _
  refine x_ifne (tgt := 223) rfl rfl (ti_ne rfl jk_0 ⟨fun c8 => ?_, fun c8 => ?_⟩)
  ·
    refine x_aloadn (x := 95) rfl rfl ?_
    refine x_iload (x := 9) rfl rfl ?_
    refine x_inv (N := m_X2_emit) (As := [.int 9]) (b := 95) (st := []) (dx9 := 1) (mc := 0) (ms := 0) (host := "") 2 rfl t_X2_emit ⟨Or.inl q_2_89, i_X2_emit.1, i_X2_emit.2⟩ ⟨by decide, rfl⟩ (congrArg Prod.fst (J.1.1 95 (2, 6) rfl)) rfl (by decide) rfl rfl ⟨by decide, by decide⟩ (sf_X2_emit_r95  hD J  (fun h J S9 => ?_))
    have Sm := jSm_tr rfl Sm S9
    show jX m_X2_readPlain 13 0 0 229 [(4, .int 9), (0, .ref 95), (1, .int 5), (2, .int l2)] [] _ 0 0 _
    exact jX.sub (jsb_c rfl (jsb_c rfl jsb_n)) (ct_X2_readPlain_r95_c5_229 hD hQ  l2 u6 u5 h (jr_of rfl (by omega)) (jr_of rfl (by omega)) (jr_of rfl (by omega)) (by omega) (jmc S9 rfl qu6) (jmc S9 rfl qu5) J Sm)
  ·
    refine x_iconst (v := 0) rfl ki_0 ?_
    refine x_zret rfl rfl (by decide) ?_
    exact hQ _ _ (jr_of jk_0 (by omega)) J Sm _ _ qu5 qu6 (by omega)
set_option maxRecDepth 100000 in
set_option maxHeartbeats 4000000 in
theorem ct_X2_readPlain_r95_c5_1000190 {Dy : jH → Prop} {h0 : jH} {Q : Option Value → jH → Prop} (hD : jDk Dy) (hQ : ∀ (v : Int32) hx9, 0 ≤ v.toInt ∧ v.toInt ≤ 1 → jJ jSgX Dy hx9 → jSm fp_X2_readPlain_r95_c5 h0 hx9 → ∀ u0 u1 : Int32, jiv hx9 68 5 = u0 → jiv hx9 68 3 = u1 → (u0.toInt ≠ 3 ∨ u1.toInt ≤ 399) → Q (some (.int v)) hx9) : ∀ (l2 : Int32) (g0 : Int32) (g1 : Int32) (h : jH), 0 ≤ l2.toInt ∧ l2.toInt ≤ 1 → 0 ≤ g0.toInt ∧ g0.toInt ≤ 400 → 0 ≤ g1.toInt ∧ g1.toInt ≤ 3 → (g1.toInt ≠ 3 ∨ g0.toInt ≤ 399) → jiv h 68 3 = g0 → jiv h 68 5 = g1 → jJ jSgX Dy h → jSm fp_X2_readPlain_r95_c5 h0 h → jX m_X2_readPlain 13 0 0 190 [(0, .ref 95), (1, .int 5), (2, .int l2)] [.int 8] h 0 0 Q := by
  intro l2 g0 g1 h y0 y1 y2 y3 z0 z1  J Sm
  refine x_istore (lsx9 := [(4, .int 8), (0, .ref 95), (1, .int 5), (2, .int l2)]) rfl rfl rfl ?_
  refine x_iload (x := 8) rfl rfl ?_
  refine x_iconst (v := (-1)) rfl ki_m1 ?_
  refine x_icne (tgt := 206) rfl rfl (ti_ne jk_8 jk_m1 (bn_t (by omega) ?_))
  refine x_aloadn (x := 95) rfl rfl ?_
  refine z_getR (N := 6) (b := 68) 2 0 rfl f_2_30 rfl J rfl 12160 ⟨rfl, rfl⟩ rfl ?_
  refine x_inv (N := m_X9_step) (As := []) (b := 68) (st := []) (dx9 := 2) (mc := 0) (ms := 0) (host := "") 9 rfl t_X9_step ⟨Or.inl q_2_62, i_X9_step.1, i_X9_step.2⟩ ⟨by decide, rfl⟩ (congrArg Prod.fst (J.1.1 68 (9, 6) rfl)) rfl (by decide) rfl rfl ⟨by decide, by decide⟩ (sf_X9_step_r68  hD J z1 z0 (by omega)  (fun h J S1 u2 u3 qu2 qu3 ru2 => ?_))
  have Sm := jSm_tr rfl Sm S1
  have eu2 := (show 0 ≤ u2.toInt ∧ u2.toInt ≤ 3 from qu2 ▸ jrg_f J sg_68_5_6_1_0_1)
  have eu3 := (show 0 ≤ u3.toInt ∧ u3.toInt ≤ 400 from qu3 ▸ jrg_f J sg_68_3_4_1_0_1)
  show jX m_X2_readPlain 13 0 0 213 [(4, .int 8), (0, .ref 95), (1, .int 5), (2, .int l2)] [] _ 0 0 _
  refine x_aloadn (x := 95) rfl rfl ?_
  refine x_iloadn (x := 5) rfl rfl ?_
  refine x_inv (N := m_X2_readSum) (As := [.int 5]) (b := 95) (st := []) (dx9 := 12) (mc := 0) (ms := 0) (host := "") 2 rfl t_X2_readSum ⟨Or.inl q_2_86, i_X2_readSum.1, i_X2_readSum.2⟩ ⟨by decide, rfl⟩ (congrArg Prod.fst (J.1.1 95 (2, 6) rfl)) rfl (by decide) rfl rfl ⟨by decide, by decide⟩ (sf_X2_readSum_r95_c5  hD J qu2 qu3 (by omega)  (fun v7 h ev7 J S4 u5 u6 qu5 qu6 ru5 => ?_))
  have Sm := jSm_tr rfl Sm S4
  have eu5 := (show 0 ≤ u5.toInt ∧ u5.toInt ≤ 3 from qu5 ▸ jrg_f J sg_68_5_6_1_0_1)
  have eu6 := (show 0 ≤ u6.toInt ∧ u6.toInt ≤ 400 from qu6 ▸ jrg_f J sg_68_3_4_1_0_1)
  show jX m_X2_readPlain 13 0 0 218 [(4, .int 8), (0, .ref 95), (1, .int 5), (2, .int l2)] [.int v7] _ 0 0 _
  refine x_ifne (tgt := 223) rfl rfl (ti_ne rfl jk_0 ⟨fun c8 => ?_, fun c8 => ?_⟩)
  ·
    refine x_aloadn (x := 95) rfl rfl ?_
    refine x_iload (x := 8) rfl rfl ?_
    refine x_inv (N := m_X2_emit) (As := [.int 8]) (b := 95) (st := []) (dx9 := 1) (mc := 0) (ms := 0) (host := "") 2 rfl t_X2_emit ⟨Or.inl q_2_89, i_X2_emit.1, i_X2_emit.2⟩ ⟨by decide, rfl⟩ (congrArg Prod.fst (J.1.1 95 (2, 6) rfl)) rfl (by decide) rfl rfl ⟨by decide, by decide⟩ (sf_X2_emit_r95  hD J  (fun h J S9 => ?_))
    have Sm := jSm_tr rfl Sm S9
    show jX m_X2_readPlain 13 0 0 229 [(4, .int 8), (0, .ref 95), (1, .int 5), (2, .int l2)] [] _ 0 0 _
    exact jX.sub (jsb_c rfl (jsb_c rfl jsb_n)) (ct_X2_readPlain_r95_c5_229 hD hQ  l2 u6 u5 h (jr_of rfl (by omega)) (jr_of rfl (by omega)) (jr_of rfl (by omega)) (by omega) (jmc S9 rfl qu6) (jmc S9 rfl qu5) J Sm)
  ·
    refine x_iconst (v := 0) rfl ki_0 ?_
    refine x_zret rfl rfl (by decide) ?_
    exact hQ _ _ (jr_of jk_0 (by omega)) J Sm _ _ qu5 qu6 (by omega)
set_option maxRecDepth 100000 in
set_option maxHeartbeats 4000000 in
theorem ct_X2_readPlain_r95_c5_900190 {Dy : jH → Prop} {h0 : jH} {Q : Option Value → jH → Prop} (hD : jDk Dy) (hQ : ∀ (v : Int32) hx9, 0 ≤ v.toInt ∧ v.toInt ≤ 1 → jJ jSgX Dy hx9 → jSm fp_X2_readPlain_r95_c5 h0 hx9 → ∀ u0 u1 : Int32, jiv hx9 68 5 = u0 → jiv hx9 68 3 = u1 → (u0.toInt ≠ 3 ∨ u1.toInt ≤ 399) → Q (some (.int v)) hx9) : ∀ (l2 : Int32) (g0 : Int32) (g1 : Int32) (h : jH), 0 ≤ l2.toInt ∧ l2.toInt ≤ 1 → 0 ≤ g0.toInt ∧ g0.toInt ≤ 400 → 0 ≤ g1.toInt ∧ g1.toInt ≤ 3 → (g1.toInt ≠ 3 ∨ g0.toInt ≤ 399) → jiv h 68 3 = g0 → jiv h 68 5 = g1 → jJ jSgX Dy h → jSm fp_X2_readPlain_r95_c5 h0 h → jX m_X2_readPlain 13 0 0 190 [(0, .ref 95), (1, .int 5), (2, .int l2)] [.int 7] h 0 0 Q := by
  intro l2 g0 g1 h y0 y1 y2 y3 z0 z1  J Sm
  refine x_istore (lsx9 := [(4, .int 7), (0, .ref 95), (1, .int 5), (2, .int l2)]) rfl rfl rfl ?_
  refine x_iload (x := 7) rfl rfl ?_
  refine x_iconst (v := (-1)) rfl ki_m1 ?_
  refine x_icne (tgt := 206) rfl rfl (ti_ne jk_7 jk_m1 (bn_t (by omega) ?_))
  refine x_aloadn (x := 95) rfl rfl ?_
  refine z_getR (N := 6) (b := 68) 2 0 rfl f_2_30 rfl J rfl 12160 ⟨rfl, rfl⟩ rfl ?_
  refine x_inv (N := m_X9_step) (As := []) (b := 68) (st := []) (dx9 := 2) (mc := 0) (ms := 0) (host := "") 9 rfl t_X9_step ⟨Or.inl q_2_62, i_X9_step.1, i_X9_step.2⟩ ⟨by decide, rfl⟩ (congrArg Prod.fst (J.1.1 68 (9, 6) rfl)) rfl (by decide) rfl rfl ⟨by decide, by decide⟩ (sf_X9_step_r68  hD J z1 z0 (by omega)  (fun h J S1 u2 u3 qu2 qu3 ru2 => ?_))
  have Sm := jSm_tr rfl Sm S1
  have eu2 := (show 0 ≤ u2.toInt ∧ u2.toInt ≤ 3 from qu2 ▸ jrg_f J sg_68_5_6_1_0_1)
  have eu3 := (show 0 ≤ u3.toInt ∧ u3.toInt ≤ 400 from qu3 ▸ jrg_f J sg_68_3_4_1_0_1)
  show jX m_X2_readPlain 13 0 0 213 [(4, .int 7), (0, .ref 95), (1, .int 5), (2, .int l2)] [] _ 0 0 _
  refine x_aloadn (x := 95) rfl rfl ?_
  refine x_iloadn (x := 5) rfl rfl ?_
  refine x_inv (N := m_X2_readSum) (As := [.int 5]) (b := 95) (st := []) (dx9 := 12) (mc := 0) (ms := 0) (host := "") 2 rfl t_X2_readSum ⟨Or.inl q_2_86, i_X2_readSum.1, i_X2_readSum.2⟩ ⟨by decide, rfl⟩ (congrArg Prod.fst (J.1.1 95 (2, 6) rfl)) rfl (by decide) rfl rfl ⟨by decide, by decide⟩ (sf_X2_readSum_r95_c5  hD J qu2 qu3 (by omega)  (fun v7 h ev7 J S4 u5 u6 qu5 qu6 ru5 => ?_))
  have Sm := jSm_tr rfl Sm S4
  have eu5 := (show 0 ≤ u5.toInt ∧ u5.toInt ≤ 3 from qu5 ▸ jrg_f J sg_68_5_6_1_0_1)
  have eu6 := (show 0 ≤ u6.toInt ∧ u6.toInt ≤ 400 from qu6 ▸ jrg_f J sg_68_3_4_1_0_1)
  show jX m_X2_readPlain 13 0 0 218 [(4, .int 7), (0, .ref 95), (1, .int 5), (2, .int l2)] [.int v7] _ 0 0 _
  refine x_ifne (tgt := 223) rfl rfl (ti_ne rfl jk_0 ⟨fun c8 => ?_, fun c8 => ?_⟩)
  ·
    refine x_aloadn (x := 95) rfl rfl ?_
    refine x_iload (x := 7) rfl rfl ?_
    refine x_inv (N := m_X2_emit) (As := [.int 7]) (b := 95) (st := []) (dx9 := 1) (mc := 0) (ms := 0) (host := "") 2 rfl t_X2_emit ⟨Or.inl q_2_89, i_X2_emit.1, i_X2_emit.2⟩ ⟨by decide, rfl⟩ (congrArg Prod.fst (J.1.1 95 (2, 6) rfl)) rfl (by decide) rfl rfl ⟨by decide, by decide⟩ (sf_X2_emit_r95  hD J  (fun h J S9 => ?_))
    have Sm := jSm_tr rfl Sm S9
    show jX m_X2_readPlain 13 0 0 229 [(4, .int 7), (0, .ref 95), (1, .int 5), (2, .int l2)] [] _ 0 0 _
    exact jX.sub (jsb_c rfl (jsb_c rfl jsb_n)) (ct_X2_readPlain_r95_c5_229 hD hQ  l2 u6 u5 h (jr_of rfl (by omega)) (jr_of rfl (by omega)) (jr_of rfl (by omega)) (by omega) (jmc S9 rfl qu6) (jmc S9 rfl qu5) J Sm)
  ·
    refine x_iconst (v := 0) rfl ki_0 ?_
    refine x_zret rfl rfl (by decide) ?_
    exact hQ _ _ (jr_of jk_0 (by omega)) J Sm _ _ qu5 qu6 (by omega)
set_option maxRecDepth 100000 in
set_option maxHeartbeats 4000000 in
theorem ct_X2_readPlain_r95_c5_108 {Dy : jH → Prop} {h0 : jH} {Q : Option Value → jH → Prop} (hD : jDk Dy) (hQ : ∀ (v : Int32) hx9, 0 ≤ v.toInt ∧ v.toInt ≤ 1 → jJ jSgX Dy hx9 → jSm fp_X2_readPlain_r95_c5 h0 hx9 → ∀ u0 u1 : Int32, jiv hx9 68 5 = u0 → jiv hx9 68 3 = u1 → (u0.toInt ≠ 3 ∨ u1.toInt ≤ 399) → Q (some (.int v)) hx9) : ∀ (g0 : Int32) (g1 : Int32) (h : jH), 0 ≤ g0.toInt ∧ g0.toInt ≤ 400 → 0 ≤ g1.toInt ∧ g1.toInt ≤ 3 → (g1.toInt ≠ 3 ∨ g0.toInt ≤ 399) → jiv h 68 3 = g0 → jiv h 68 5 = g1 → jJ jSgX Dy h → jSm fp_X2_readPlain_r95_c5 h0 h → jX m_X2_readPlain 13 0 0 108 [] [] h 0 0 Q := by
  intro g0 g1 h y0 y1 y2 z0 z1  J Sm
  refine x_iconst (v := 0) rfl ki_0 ?_
  refine x_zret rfl rfl (by decide) ?_
  exact hQ _ _ (jr_of jk_0 (by omega)) J Sm _ _ z1 z0 (by omega)
set_option maxRecDepth 100000 in
set_option maxHeartbeats 4000000 in
theorem ct_X2_readPlain_r95_c5_46 {Dy : jH → Prop} {h0 : jH} {Q : Option Value → jH → Prop} (hD : jDk Dy) (hQ : ∀ (v : Int32) hx9, 0 ≤ v.toInt ∧ v.toInt ≤ 1 → jJ jSgX Dy hx9 → jSm fp_X2_readPlain_r95_c5 h0 hx9 → ∀ u0 u1 : Int32, jiv hx9 68 5 = u0 → jiv hx9 68 3 = u1 → (u0.toInt ≠ 3 ∨ u1.toInt ≤ 399) → Q (some (.int v)) hx9) : ∀ (l2 : Int32) (g0 : Int32) (g1 : Int32) (h : jH), 0 ≤ l2.toInt ∧ l2.toInt ≤ 1 → 0 ≤ g0.toInt ∧ g0.toInt ≤ 400 → 0 ≤ g1.toInt ∧ g1.toInt ≤ 3 → (g1.toInt ≠ 3 ∨ g0.toInt ≤ 399) → jiv h 68 3 = g0 → jiv h 68 5 = g1 → jJ jSgX Dy h → jSm fp_X2_readPlain_r95_c5 h0 h → jX m_X2_readPlain 13 0 0 46 [(0, .ref 95), (1, .int 5), (2, .int l2)] [] h 0 0 Q := by
  intro l2 g0 g1 h y0 y1 y2 y3 z0 z1  J Sm
  refine x_aloadn (x := 95) rfl rfl ?_
  refine z_getR (N := 6) (b := 68) 2 0 rfl f_2_30 rfl J rfl 12160 ⟨rfl, rfl⟩ rfl ?_
  refine x_ldcS (jstr.getD 10 jstr_0) rfl (List.mem_of_getElem? (i := 10) rfl) rfl rfl ?_
  show jX m_X2_readPlain 13 0 0 52 [(0, .ref 95), (1, .int 5), (2, .int l2)] [.ref 15, .ref 68] _ 0 0 _
  refine x_inv (N := m_X9_wordOf) (As := [.ref 15]) (b := 68) (st := []) (dx9 := 4) (mc := 0) (ms := 0) (host := "") 9 rfl t_X9_wordOf ⟨Or.inl q_2_67, i_X9_wordOf.1, i_X9_wordOf.2⟩ ⟨by decide, rfl⟩ (congrArg Prod.fst (J.1.1 68 (9, 6) rfl)) rfl (by decide) rfl rfl ⟨by decide, by decide⟩ (sf_X9_wordOf_r68_r15  hD J  (fun v2 h J S1 => ?_))
  have ev2 := jfull v2
  have Sm := jSm_tr rfl Sm S1
  show jX m_X2_readPlain 13 0 0 55 [(0, .ref 95), (1, .int 5), (2, .int l2)] [.int v2] _ 0 0 _
  refine x_istoren (lsx9 := [(3, .int v2), (0, .ref 95), (1, .int 5), (2, .int l2)]) rfl rfl rfl ?_
  refine x_aloadn (x := 95) rfl rfl ?_
  refine z_getR (N := 6) (b := 68) 2 0 rfl f_2_30 rfl J rfl 12160 ⟨rfl, rfl⟩ rfl ?_
  refine x_bipush (v := 40) rfl kb_40 ?_
  refine x_inv (N := m_X9_isSign) (As := [.int 40]) (b := 68) (st := []) (dx9 := 1) (mc := 0) (ms := 0) (host := "") 9 rfl t_X9_isSign ⟨Or.inl q_2_55, i_X9_isSign.1, i_X9_isSign.2⟩ ⟨by decide, rfl⟩ (congrArg Prod.fst (J.1.1 68 (9, 6) rfl)) rfl (by decide) rfl rfl ⟨by decide, by decide⟩ (sf_X9_isSign_r68 (jr_of jk_40 (by omega)) hD J (jmc S1 rfl z1) (jmc S1 rfl z0) (by omega)  (fun v6 h ev6 J S3 u4 u5 qu4 qu5 ru4 => ?_))
  have Sm := jSm_tr rfl Sm S3
  have eu4 := (show 0 ≤ u4.toInt ∧ u4.toInt ≤ 3 from qu4 ▸ jrg_f J sg_68_5_6_1_0_1)
  have eu5 := (show 0 ≤ u5.toInt ∧ u5.toInt ≤ 400 from qu5 ▸ jrg_f J sg_68_3_4_1_0_1)
  show jX m_X2_readPlain 13 0 0 65 [(3, .int v2), (0, .ref 95), (1, .int 5), (2, .int l2)] [.int v6] _ 0 0 _
  refine x_ifeq (tgt := 110) rfl rfl (ti_eq rfl jk_0 ⟨fun c7 => ?_, fun c7 => ?_⟩)
  ·
    refine x_iloadn (x := v2) rfl rfl ?_
    refine x_iconst (v := (-1)) rfl ki_m1 ?_
    refine x_iceq (tgt := 128) rfl rfl (ti_eq rfl jk_m1 ⟨fun c8 => ?_, fun c8 => ?_⟩)
    ·
      refine x_aloadn (x := 95) rfl rfl ?_
      refine x_iloadn (x := 5) rfl rfl ?_
      refine x_inv (N := m_X2_readSum) (As := [.int 5]) (b := 95) (st := []) (dx9 := 12) (mc := 0) (ms := 0) (host := "") 2 rfl t_X2_readSum ⟨Or.inl q_2_86, i_X2_readSum.1, i_X2_readSum.2⟩ ⟨by decide, rfl⟩ (congrArg Prod.fst (J.1.1 95 (2, 6) rfl)) rfl (by decide) rfl rfl ⟨by decide, by decide⟩ (sf_X2_readSum_r95_c5  hD J qu4 qu5 (by omega)  (fun v12 h ev12 J S9 u10 u11 qu10 qu11 ru10 => ?_))
      have Sm := jSm_tr rfl Sm S9
      have eu10 := (show 0 ≤ u10.toInt ∧ u10.toInt ≤ 3 from qu10 ▸ jrg_f J sg_68_5_6_1_0_1)
      have eu11 := (show 0 ≤ u11.toInt ∧ u11.toInt ≤ 400 from qu11 ▸ jrg_f J sg_68_3_4_1_0_1)
      show jX m_X2_readPlain 13 0 0 133 [(3, .int v2), (0, .ref 95), (1, .int 5), (2, .int l2)] [.int v12] _ 0 0 _
      refine x_ifne (tgt := 138) rfl rfl (ti_ne rfl jk_0 ⟨fun c13 => ?_, fun c13 => ?_⟩)
      ·
        refine x_aloadn (x := 95) rfl rfl ?_
        refine z_getR (N := 6) (b := 68) 2 0 rfl f_2_30 rfl J rfl 12160 ⟨rfl, rfl⟩ rfl ?_
        refine x_bipush (v := 60) rfl kb_60 ?_
        refine x_inv (N := m_X9_isSign) (As := [.int 60]) (b := 68) (st := []) (dx9 := 1) (mc := 0) (ms := 0) (host := "") 9 rfl t_X9_isSign ⟨Or.inl q_2_55, i_X9_isSign.1, i_X9_isSign.2⟩ ⟨by decide, rfl⟩ (congrArg Prod.fst (J.1.1 68 (9, 6) rfl)) rfl (by decide) rfl rfl ⟨by decide, by decide⟩ (sf_X9_isSign_r68 (jr_of jk_60 (by omega)) hD J qu10 qu11 (by omega)  (fun v17 h ev17 J S14 u15 u16 qu15 qu16 ru15 => ?_))
        have Sm := jSm_tr rfl Sm S14
        have eu15 := (show 0 ≤ u15.toInt ∧ u15.toInt ≤ 3 from qu15 ▸ jrg_f J sg_68_5_6_1_0_1)
        have eu16 := (show 0 ≤ u16.toInt ∧ u16.toInt ≤ 400 from qu16 ▸ jrg_f J sg_68_3_4_1_0_1)
        show jX m_X2_readPlain 13 0 0 147 [(3, .int v2), (0, .ref 95), (1, .int 5), (2, .int l2)] [.int v17] _ 0 0 _
        refine x_ifeq (tgt := 155) rfl rfl (ti_eq rfl jk_0 ⟨fun c18 => ?_, fun c18 => ?_⟩)
        ·
          refine x_aloadn (x := 95) rfl rfl ?_
          refine z_getR (N := 6) (b := 68) 2 0 rfl f_2_30 rfl J rfl 12160 ⟨rfl, rfl⟩ rfl ?_
          refine x_bipush (v := 62) rfl kb_62 ?_
          refine x_inv (N := m_X9_isSign) (As := [.int 62]) (b := 68) (st := []) (dx9 := 1) (mc := 0) (ms := 0) (host := "") 9 rfl t_X9_isSign ⟨Or.inl q_2_55, i_X9_isSign.1, i_X9_isSign.2⟩ ⟨by decide, rfl⟩ (congrArg Prod.fst (J.1.1 68 (9, 6) rfl)) rfl (by decide) rfl rfl ⟨by decide, by decide⟩ (sf_X9_isSign_r68 (jr_of jk_62 (by omega)) hD J qu15 qu16 (by omega)  (fun v22 h ev22 J S19 u20 u21 qu20 qu21 ru20 => ?_))
          have Sm := jSm_tr rfl Sm S19
          have eu20 := (show 0 ≤ u20.toInt ∧ u20.toInt ≤ 3 from qu20 ▸ jrg_f J sg_68_5_6_1_0_1)
          have eu21 := (show 0 ≤ u21.toInt ∧ u21.toInt ≤ 400 from qu21 ▸ jrg_f J sg_68_3_4_1_0_1)
          show jX m_X2_readPlain 13 0 0 164 [(3, .int v2), (0, .ref 95), (1, .int 5), (2, .int l2)] [.int v22] _ 0 0 _
          refine x_ifeq (tgt := 172) rfl rfl (ti_eq rfl jk_0 ⟨fun c23 => ?_, fun c23 => ?_⟩)
          ·
            refine x_aloadn (x := 95) rfl rfl ?_
            refine z_getR (N := 6) (b := 68) 2 0 rfl f_2_30 rfl J rfl 12160 ⟨rfl, rfl⟩ rfl ?_
            refine x_bipush (v := 61) rfl kb_61 ?_
            refine x_inv (N := m_X9_isSign) (As := [.int 61]) (b := 68) (st := []) (dx9 := 1) (mc := 0) (ms := 0) (host := "") 9 rfl t_X9_isSign ⟨Or.inl q_2_55, i_X9_isSign.1, i_X9_isSign.2⟩ ⟨by decide, rfl⟩ (congrArg Prod.fst (J.1.1 68 (9, 6) rfl)) rfl (by decide) rfl rfl ⟨by decide, by decide⟩ (sf_X9_isSign_r68 (jr_of jk_61 (by omega)) hD J qu20 qu21 (by omega)  (fun v27 h ev27 J S24 u25 u26 qu25 qu26 ru25 => ?_))
            have Sm := jSm_tr rfl Sm S24
            have eu25 := (show 0 ≤ u25.toInt ∧ u25.toInt ≤ 3 from qu25 ▸ jrg_f J sg_68_5_6_1_0_1)
            have eu26 := (show 0 ≤ u26.toInt ∧ u26.toInt ≤ 400 from qu26 ▸ jrg_f J sg_68_3_4_1_0_1)
            show jX m_X2_readPlain 13 0 0 181 [(3, .int v2), (0, .ref 95), (1, .int 5), (2, .int l2)] [.int v27] _ 0 0 _
            refine x_ifeq (tgt := 189) rfl rfl (ti_eq rfl jk_0 ⟨fun c28 => ?_, fun c28 => ?_⟩)
            ·
              refine x_iconst (v := (-1)) rfl ki_m1 ?_
              exact jX.sub (jsb_c rfl (jsb_c rfl (jsb_c rfl jsb_n))) (ct_X2_readPlain_r95_c5_100190 hD hQ  l2 u26 u25 h (jr_of rfl (by omega)) (jr_of rfl (by omega)) (jr_of rfl (by omega)) (by omega) qu26 qu25 J Sm)
            ·
              refine x_bipush (v := 9) rfl kb_9 ?_
              refine x_goto (tgt := 190) rfl rfl ?_
              exact jX.sub (jsb_c rfl (jsb_c rfl (jsb_c rfl jsb_n))) (ct_X2_readPlain_r95_c5_190 hD hQ  l2 u26 u25 h (jr_of rfl (by omega)) (jr_of rfl (by omega)) (jr_of rfl (by omega)) (by omega) qu26 qu25 J Sm)
          ·
            refine x_bipush (v := 8) rfl kb_8 ?_
            refine x_goto (tgt := 190) rfl rfl ?_
            exact jX.sub (jsb_c rfl (jsb_c rfl (jsb_c rfl jsb_n))) (ct_X2_readPlain_r95_c5_1000190 hD hQ  l2 u21 u20 h (jr_of rfl (by omega)) (jr_of rfl (by omega)) (jr_of rfl (by omega)) (by omega) qu21 qu20 J Sm)
        ·
          refine x_bipush (v := 7) rfl kb_7 ?_
          refine x_goto (tgt := 190) rfl rfl ?_
          exact jX.sub (jsb_c rfl (jsb_c rfl (jsb_c rfl jsb_n))) (ct_X2_readPlain_r95_c5_900190 hD hQ  l2 u16 u15 h (jr_of rfl (by omega)) (jr_of rfl (by omega)) (jr_of rfl (by omega)) (by omega) qu16 qu15 J Sm)
      ·
        refine x_iconst (v := 0) rfl ki_0 ?_
        refine x_zret rfl rfl (by decide) ?_
        exact hQ _ _ (jr_of jk_0 (by omega)) J Sm _ _ qu10 qu11 (by omega)
    ·
      refine x_aloadn (x := 95) rfl rfl ?_
      refine x_iconst (v := 2) rfl ki_2 ?_
      refine x_iconst (v := 5) rfl ki_5 ?_
      refine x_iloadn (x := v2) rfl rfl ?_
      refine z_iadd0 rfl (fun v29 => ?_)
      have ev29 := jfull v29
      refine x_inv (N := m_X2_readPart) (As := [.int 2, .int v29]) (b := 95) (st := []) (dx9 := 3) (mc := 0) (ms := 0) (host := "") 2 rfl t_X2_readPart ⟨Or.inl q_2_141, i_X2_readPart.1, i_X2_readPart.2⟩ ⟨by decide, rfl⟩ (congrArg Prod.fst (J.1.1 95 (2, 6) rfl)) rfl (by decide) rfl rfl ⟨by decide, by decide⟩ (sf_X2_readPart_r95 (jr_of jk_2 (by omega)) hD J qu4 qu5 (by omega)  (fun v33 h ev33 J S30 u31 u32 qu31 qu32 ru31 => ?_))
      have Sm := jSm_tr rfl Sm S30
      have eu31 := (show 0 ≤ u31.toInt ∧ u31.toInt ≤ 3 from qu31 ▸ jrg_f J sg_68_5_6_1_0_1)
      have eu32 := (show 0 ≤ u32.toInt ∧ u32.toInt ≤ 400 from qu32 ▸ jrg_f J sg_68_3_4_1_0_1)
      show jX m_X2_readPlain 13 0 0 123 [(3, .int v2), (0, .ref 95), (1, .int 5), (2, .int l2)] [.int v33] _ 0 0 _
      refine x_ifne (tgt := 229) rfl rfl (ti_ne rfl jk_0 ⟨fun c34 => ?_, fun c34 => ?_⟩)
      ·
        exact jX.sub (jsb_c rfl (jsb_c rfl jsb_n)) (ct_X2_readPlain_r95_c5_229 hD hQ  l2 u32 u31 h (jr_of rfl (by omega)) (jr_of rfl (by omega)) (jr_of rfl (by omega)) (by omega) qu32 qu31 J Sm)
      ·
        refine x_iconst (v := 0) rfl ki_0 ?_
        refine x_zret rfl rfl (by decide) ?_
        exact hQ _ _ (jr_of jk_0 (by omega)) J Sm _ _ qu31 qu32 (by omega)
  ·
    refine x_iloadn (x := 5) rfl rfl ?_
    refine x_bipush (v := 8) rfl kb_8 ?_
    refine x_iclt (tgt := 82) rfl rfl (ti_lt jk_5 jk_8 (br_t (by omega) ?_))
    refine x_aloadn (x := 95) rfl rfl ?_
    refine z_getR (N := 6) (b := 68) 2 0 rfl f_2_30 rfl J rfl 12160 ⟨rfl, rfl⟩ rfl ?_
    refine x_inv (N := m_X9_step) (As := []) (b := 68) (st := []) (dx9 := 2) (mc := 0) (ms := 0) (host := "") 9 rfl t_X9_step ⟨Or.inl q_2_62, i_X9_step.1, i_X9_step.2⟩ ⟨by decide, rfl⟩ (congrArg Prod.fst (J.1.1 68 (9, 6) rfl)) rfl (by decide) rfl rfl ⟨by decide, by decide⟩ (sf_X9_step_r68  hD J qu4 qu5 (by omega)  (fun h J S35 u36 u37 qu36 qu37 ru36 => ?_))
    have Sm := jSm_tr rfl Sm S35
    have eu36 := (show 0 ≤ u36.toInt ∧ u36.toInt ≤ 3 from qu36 ▸ jrg_f J sg_68_5_6_1_0_1)
    have eu37 := (show 0 ≤ u37.toInt ∧ u37.toInt ≤ 400 from qu37 ▸ jrg_f J sg_68_3_4_1_0_1)
    show jX m_X2_readPlain 13 0 0 89 [(3, .int v2), (0, .ref 95), (1, .int 5), (2, .int l2)] [] _ 0 0 _
    refine x_aloadn (x := 95) rfl rfl ?_
    refine x_iloadn (x := 5) rfl rfl ?_
    refine x_iconst (v := 1) rfl ki_1 ?_
    refine y_iadd (v := 6) rfl (by decide) ?_
    refine x_inv (N := m_X2_readTest) (As := [.int 6]) (b := 95) (st := []) (dx9 := 12) (mc := 0) (ms := 0) (host := "") 2 rfl t_X2_readTest ⟨Or.inl q_2_96, i_X2_readTest.1, i_X2_readTest.2⟩ ⟨by decide, rfl⟩ (congrArg Prod.fst (J.1.1 95 (2, 6) rfl)) rfl (by decide) rfl rfl ⟨by decide, by decide⟩ (sf_X2_readTest_r95_c6  hD J qu36 qu37 (by omega)  (fun v41 h ev41 J S38 u39 u40 qu39 qu40 ru39 => ?_))
    have Sm := jSm_tr rfl Sm S38
    have eu39 := (show 0 ≤ u39.toInt ∧ u39.toInt ≤ 3 from qu39 ▸ jrg_f J sg_68_5_6_1_0_1)
    have eu40 := (show 0 ≤ u40.toInt ∧ u40.toInt ≤ 400 from qu40 ▸ jrg_f J sg_68_3_4_1_0_1)
    show jX m_X2_readPlain 13 0 0 96 [(3, .int v2), (0, .ref 95), (1, .int 5), (2, .int l2)] [.int v41] _ 0 0 _
    refine x_ifeq (tgt := 108) rfl rfl (ti_eq rfl jk_0 ⟨fun c42 => ?_, fun c42 => ?_⟩)
    ·
      exact jX.sub jsb_n (ct_X2_readPlain_r95_c5_108 hD hQ  u40 u39 h (jr_of rfl (by omega)) (jr_of rfl (by omega)) (by omega) qu40 qu39 J Sm)
    ·
      refine x_aloadn (x := 95) rfl rfl ?_
      refine x_bipush (v := 41) rfl kb_41 ?_
      refine x_inv (N := m_X2_readSign) (As := [.int 41]) (b := 95) (st := []) (dx9 := 12) (mc := 0) (ms := 0) (host := "") 2 rfl t_X2_readSign ⟨Or.inl q_2_138, i_X2_readSign.1, i_X2_readSign.2⟩ ⟨by decide, rfl⟩ (congrArg Prod.fst (J.1.1 95 (2, 6) rfl)) rfl (by decide) rfl rfl ⟨by decide, by decide⟩ (jC.of rfl k_X2_readSign rfl ?_)
      show jX m_X2_readSign 12 0 0 0 [(0, .ref 95), (1, .int 41)] [] _ 0 0 _
      refine x_aloadn (x := 95) rfl rfl ?_
      refine z_getR (N := 6) (b := 68) 2 0 rfl f_2_30 rfl J rfl 12160 ⟨rfl, rfl⟩ rfl ?_
      refine x_iloadn (x := 41) rfl rfl ?_
      refine x_inv (N := m_X9_isSign) (As := [.int 41]) (b := 68) (st := []) (dx9 := 1) (mc := 0) (ms := 0) (host := "") 9 rfl t_X9_isSign ⟨Or.inl q_2_55, i_X9_isSign.1, i_X9_isSign.2⟩ ⟨by decide, rfl⟩ (congrArg Prod.fst (J.1.1 68 (9, 6) rfl)) rfl (by decide) rfl rfl ⟨by decide, by decide⟩ (sf_X9_isSign_r68 (jr_of jk_41 (by omega)) hD J qu39 qu40 (by omega)  (fun v46 h ev46 J S43 u44 u45 qu44 qu45 ru44 => ?_))
      have Sm := jSm_tr rfl Sm S43
      have eu44 := (show 0 ≤ u44.toInt ∧ u44.toInt ≤ 3 from qu44 ▸ jrg_f J sg_68_5_6_1_0_1)
      have eu45 := (show 0 ≤ u45.toInt ∧ u45.toInt ≤ 400 from qu45 ▸ jrg_f J sg_68_3_4_1_0_1)
      show jX m_X2_readSign 12 0 0 8 [(0, .ref 95), (1, .int 41)] [.int v46] _ 0 0 _
      refine x_ifne (tgt := 19) rfl rfl (ti_ne rfl jk_0 ⟨fun c47 => ?_, fun c47 => ?_⟩)
      ·
        refine x_aloadn (x := 95) rfl rfl ?_
        refine z_getR (N := 6) (b := 68) 2 0 rfl f_2_30 rfl J rfl 12160 ⟨rfl, rfl⟩ rfl ?_
        refine x_inv (N := m_X9_step) (As := []) (b := 68) (st := []) (dx9 := 2) (mc := 0) (ms := 0) (host := "") 9 rfl t_X9_step ⟨Or.inl q_2_62, i_X9_step.1, i_X9_step.2⟩ ⟨by decide, rfl⟩ (congrArg Prod.fst (J.1.1 68 (9, 6) rfl)) rfl (by decide) rfl rfl ⟨by decide, by decide⟩ (sf_X9_step_r68  hD J qu44 qu45 (by omega)  (fun h J S48 u49 u50 qu49 qu50 ru49 => ?_))
        have Sm := jSm_tr rfl Sm S48
        have eu49 := (show 0 ≤ u49.toInt ∧ u49.toInt ≤ 3 from qu49 ▸ jrg_f J sg_68_5_6_1_0_1)
        have eu50 := (show 0 ≤ u50.toInt ∧ u50.toInt ≤ 400 from qu50 ▸ jrg_f J sg_68_3_4_1_0_1)
        show jX m_X2_readSign 12 0 0 26 [(0, .ref 95), (1, .int 41)] [] _ 0 0 _
        refine x_iconst (v := 1) rfl ki_1 ?_
        refine x_zret rfl rfl (by decide) ?_
        show jX m_X2_readPlain 13 0 0 105 [(3, .int v2), (0, .ref 95), (1, .int 5), (2, .int l2)] [.int 1] _ 0 0 _
        refine x_ifne (tgt := 229) rfl rfl (ti_ne jk_1 jk_0 (bn_t (by omega) ?_))
        exact jX.sub (jsb_c rfl (jsb_c rfl jsb_n)) (ct_X2_readPlain_r95_c5_229 hD hQ  l2 u50 u49 h (jr_of rfl (by omega)) (jr_of rfl (by omega)) (jr_of rfl (by omega)) (by omega) qu50 qu49 J Sm)
      ·
        refine x_aloadn (x := 95) rfl rfl ?_
        refine z_getR (N := 6) (b := 68) 2 0 rfl f_2_30 rfl J rfl 12160 ⟨rfl, rfl⟩ rfl ?_
        refine x_inv (N := m_X9_blame) (As := []) (b := 68) (st := []) (dx9 := 11) (mc := 0) (ms := 0) (host := "") 9 rfl t_X9_blame ⟨Or.inl q_2_59, i_X9_blame.1, i_X9_blame.2⟩ ⟨by decide, rfl⟩ (congrArg Prod.fst (J.1.1 68 (9, 6) rfl)) rfl (by decide) rfl rfl ⟨by decide, by decide⟩ (jC.of rfl k_X9_blame rfl ?_)
        show jX m_X9_blame 11 0 0 0 [(0, .ref 68)] [] _ 0 0 _
        refine x_aloadn (x := 68) rfl rfl ?_
        refine x_aloadn (x := 68) rfl rfl ?_
        refine z_getM (N := 6) (v := u45) 9 3 rfl f_9_22 rfl J rfl qu45 ?_
        refine z_putI (N := 6) (w := u45.toInt) 9 2 rfl f_9_19 rfl (jfin_no TX9 RX9 6 rfl rfl) hD J Sm rfl rfl rfl (pw_68_2 (by omega)) rfl (fun h w51 J Sm => ?_)
        refine x_iconst (v := 0) rfl ki_0 ?_
        refine x_zret rfl rfl (by decide) ?_
        show jX m_X2_readSign 12 0 0 18 [(0, .ref 95), (1, .int 41)] [.int 0] _ 0 0 _
        refine x_zret rfl rfl (by decide) ?_
        show jX m_X2_readPlain 13 0 0 105 [(3, .int v2), (0, .ref 95), (1, .int 5), (2, .int l2)] [.int 0] _ 0 0 _
        refine x_ifne (tgt := 229) rfl rfl (ti_ne jk_0 jk_0 (bn_f (by omega) ?_))
        exact jX.sub jsb_n (ct_X2_readPlain_r95_c5_108 hD hQ  u45 u44 h (jr_of rfl (by omega)) (jr_of rfl (by omega)) (by omega) (jmo w51 rfl qu45) (jmo w51 rfl qu44) J Sm)
set_option maxRecDepth 100000 in
set_option maxHeartbeats 4000000 in
theorem ct_X2_readPlain_r95_c5_300032 {Dy : jH → Prop} {h0 : jH} {Q : Option Value → jH → Prop} {R4 : Int} (hD : jDk Dy) (hQ : ∀ (v : Int32) hx9, 0 ≤ v.toInt ∧ v.toInt ≤ 1 → jJ jSgX Dy hx9 → jSm fp_X2_readPlain_r95_c5 h0 hx9 → ∀ u0 u1 : Int32, jiv hx9 68 5 = u0 → jiv hx9 68 3 = u1 → (u0.toInt ≠ 3 ∨ u1.toInt ≤ 399) → Q (some (.int v)) hx9) (k4 : ∀ (l2 : Int32) (l3 : Int32) (g0 : Int32) (g1 : Int32) (h : jH), 400 - l3.toInt < R4 → 0 ≤ l2.toInt ∧ l2.toInt ≤ 1 → 0 ≤ l3.toInt ∧ l3.toInt ≤ 400 → 0 ≤ g0.toInt ∧ g0.toInt ≤ 400 → 0 ≤ g1.toInt ∧ g1.toInt ≤ 3 → (g1.toInt ≠ 3 ∨ g0.toInt ≤ 399) → jiv h 68 3 = g0 → jiv h 68 5 = g1 → jJ jSgX Dy h → jSm fp_X2_readPlain_r95_c5 h0 h → jX m_X2_readPlain 13 0 0 4 [(0, .ref 95), (1, .int 5), (2, .int l2), (3, .int l3)] [] h 0 0 Q) : ∀ (l3 : Int32) (g0 : Int32) (g1 : Int32) (h : jH), 0 ≤ l3.toInt ∧ l3.toInt ≤ 399 → 0 ≤ g0.toInt ∧ g0.toInt ≤ 400 → 0 ≤ g1.toInt ∧ g1.toInt ≤ 3 → (g1.toInt ≠ 3 ∨ g0.toInt ≤ 399) → jiv h 68 3 = g0 → jiv h 68 5 = g1 → 400 - l3.toInt ≤ R4 → jJ jSgX Dy h → jSm fp_X2_readPlain_r95_c5 h0 h → jX m_X2_readPlain 13 0 0 32 [(0, .ref 95), (1, .int 5), (3, .int l3)] [.int 1] h 0 0 Q := by
  intro l3 g0 g1 h y0 y1 y2 y3 z0 z1 m4 J Sm
  refine x_istoren (lsx9 := [(2, .int 1), (0, .ref 95), (1, .int 5), (3, .int l3)]) rfl rfl rfl ?_
  refine x_aloadn (x := 95) rfl rfl ?_
  refine z_getR (N := 6) (b := 68) 2 0 rfl f_2_30 rfl J rfl 12160 ⟨rfl, rfl⟩ rfl ?_
  refine x_inv (N := m_X9_step) (As := []) (b := 68) (st := []) (dx9 := 2) (mc := 0) (ms := 0) (host := "") 9 rfl t_X9_step ⟨Or.inl q_2_62, i_X9_step.1, i_X9_step.2⟩ ⟨by decide, rfl⟩ (congrArg Prod.fst (J.1.1 68 (9, 6) rfl)) rfl (by decide) rfl rfl ⟨by decide, by decide⟩ (sf_X9_step_r68  hD J z1 z0 (by omega)  (fun h J S1 u2 u3 qu2 qu3 ru2 => ?_))
  have Sm := jSm_tr rfl Sm S1
  have eu2 := (show 0 ≤ u2.toInt ∧ u2.toInt ≤ 3 from qu2 ▸ jrg_f J sg_68_5_6_1_0_1)
  have eu3 := (show 0 ≤ u3.toInt ∧ u3.toInt ≤ 400 from qu3 ▸ jrg_f J sg_68_3_4_1_0_1)
  show jX m_X2_readPlain 13 0 0 40 [(2, .int 1), (0, .ref 95), (1, .int 5), (3, .int l3)] [] _ 0 0 _
  refine z_iinc (x := l3) (lsx9 := fun v4 => [(3, .int v4), (2, .int 1), (0, .ref 95), (1, .int 5)]) rfl rfl rfl jko_1 (by omega) rfl (fun _ => rfl) (fun v4 ev4 => ?_)
  refine x_goto (tgt := 4) rfl rfl ?_
  exact jX.sub (jsb_c rfl (jsb_c rfl (jsb_c rfl (jsb_c rfl jsb_n)))) (k4 1 v4 u3 u2 h (by omega) (jr_of jk_1 (by omega)) (jr_of rfl (by omega)) (jr_of rfl (by omega)) (jr_of rfl (by omega)) (by omega) qu3 qu2 J Sm)
set_option maxRecDepth 100000 in
set_option maxHeartbeats 4000000 in
theorem ct_X2_readPlain_r95_c5_200032 {Dy : jH → Prop} {h0 : jH} {Q : Option Value → jH → Prop} {R4 : Int} (hD : jDk Dy) (hQ : ∀ (v : Int32) hx9, 0 ≤ v.toInt ∧ v.toInt ≤ 1 → jJ jSgX Dy hx9 → jSm fp_X2_readPlain_r95_c5 h0 hx9 → ∀ u0 u1 : Int32, jiv hx9 68 5 = u0 → jiv hx9 68 3 = u1 → (u0.toInt ≠ 3 ∨ u1.toInt ≤ 399) → Q (some (.int v)) hx9) (k4 : ∀ (l2 : Int32) (l3 : Int32) (g0 : Int32) (g1 : Int32) (h : jH), 400 - l3.toInt < R4 → 0 ≤ l2.toInt ∧ l2.toInt ≤ 1 → 0 ≤ l3.toInt ∧ l3.toInt ≤ 400 → 0 ≤ g0.toInt ∧ g0.toInt ≤ 400 → 0 ≤ g1.toInt ∧ g1.toInt ≤ 3 → (g1.toInt ≠ 3 ∨ g0.toInt ≤ 399) → jiv h 68 3 = g0 → jiv h 68 5 = g1 → jJ jSgX Dy h → jSm fp_X2_readPlain_r95_c5 h0 h → jX m_X2_readPlain 13 0 0 4 [(0, .ref 95), (1, .int 5), (2, .int l2), (3, .int l3)] [] h 0 0 Q) : ∀ (l3 : Int32) (g0 : Int32) (g1 : Int32) (h : jH), 0 ≤ l3.toInt ∧ l3.toInt ≤ 399 → 0 ≤ g0.toInt ∧ g0.toInt ≤ 400 → 0 ≤ g1.toInt ∧ g1.toInt ≤ 3 → (g1.toInt ≠ 3 ∨ g0.toInt ≤ 399) → jiv h 68 3 = g0 → jiv h 68 5 = g1 → 400 - l3.toInt ≤ R4 → jJ jSgX Dy h → jSm fp_X2_readPlain_r95_c5 h0 h → jX m_X2_readPlain 13 0 0 32 [(0, .ref 95), (1, .int 5), (3, .int l3)] [.int 0] h 0 0 Q := by
  intro l3 g0 g1 h y0 y1 y2 y3 z0 z1 m4 J Sm
  refine x_istoren (lsx9 := [(2, .int 0), (0, .ref 95), (1, .int 5), (3, .int l3)]) rfl rfl rfl ?_
  refine x_aloadn (x := 95) rfl rfl ?_
  refine z_getR (N := 6) (b := 68) 2 0 rfl f_2_30 rfl J rfl 12160 ⟨rfl, rfl⟩ rfl ?_
  refine x_inv (N := m_X9_step) (As := []) (b := 68) (st := []) (dx9 := 2) (mc := 0) (ms := 0) (host := "") 9 rfl t_X9_step ⟨Or.inl q_2_62, i_X9_step.1, i_X9_step.2⟩ ⟨by decide, rfl⟩ (congrArg Prod.fst (J.1.1 68 (9, 6) rfl)) rfl (by decide) rfl rfl ⟨by decide, by decide⟩ (sf_X9_step_r68  hD J z1 z0 (by omega)  (fun h J S1 u2 u3 qu2 qu3 ru2 => ?_))
  have Sm := jSm_tr rfl Sm S1
  have eu2 := (show 0 ≤ u2.toInt ∧ u2.toInt ≤ 3 from qu2 ▸ jrg_f J sg_68_5_6_1_0_1)
  have eu3 := (show 0 ≤ u3.toInt ∧ u3.toInt ≤ 400 from qu3 ▸ jrg_f J sg_68_3_4_1_0_1)
  show jX m_X2_readPlain 13 0 0 40 [(2, .int 0), (0, .ref 95), (1, .int 5), (3, .int l3)] [] _ 0 0 _
  refine z_iinc (x := l3) (lsx9 := fun v4 => [(3, .int v4), (2, .int 0), (0, .ref 95), (1, .int 5)]) rfl rfl rfl jko_1 (by omega) rfl (fun _ => rfl) (fun v4 ev4 => ?_)
  refine x_goto (tgt := 4) rfl rfl ?_
  exact jX.sub (jsb_c rfl (jsb_c rfl (jsb_c rfl (jsb_c rfl jsb_n)))) (k4 0 v4 u3 u2 h (by omega) (jr_of jk_0 (by omega)) (jr_of rfl (by omega)) (jr_of rfl (by omega)) (jr_of rfl (by omega)) (by omega) qu3 qu2 J Sm)
set_option maxRecDepth 100000 in
set_option maxHeartbeats 4000000 in
theorem ct_X2_readPlain_r95_c5_4 {Dy : jH → Prop} {h0 : jH} {Q : Option Value → jH → Prop} (hD : jDk Dy) (hQ : ∀ (v : Int32) hx9, 0 ≤ v.toInt ∧ v.toInt ≤ 1 → jJ jSgX Dy hx9 → jSm fp_X2_readPlain_r95_c5 h0 hx9 → ∀ u0 u1 : Int32, jiv hx9 68 5 = u0 → jiv hx9 68 3 = u1 → (u0.toInt ≠ 3 ∨ u1.toInt ≤ 399) → Q (some (.int v)) hx9) : ∀ r : Nat, ∀ (l2 : Int32) (l3 : Int32) (g0 : Int32) (g1 : Int32) (h : jH), 400 - l3.toInt < (r : Int) → 0 ≤ l2.toInt ∧ l2.toInt ≤ 1 → 0 ≤ l3.toInt ∧ l3.toInt ≤ 400 → 0 ≤ g0.toInt ∧ g0.toInt ≤ 400 → 0 ≤ g1.toInt ∧ g1.toInt ≤ 3 → (g1.toInt ≠ 3 ∨ g0.toInt ≤ 399) → jiv h 68 3 = g0 → jiv h 68 5 = g1 → jJ jSgX Dy h → jSm fp_X2_readPlain_r95_c5 h0 h → jX m_X2_readPlain 13 0 0 4 [(0, .ref 95), (1, .int 5), (2, .int l2), (3, .int l3)] [] h 0 0 Q := by
  intro r
  induction r with
  | zero =>
    intro l2 l3 g0 g1 h hm y0 y1 y2 y3 y4 z0 z1  J Sm
    exfalso
    omega
  | succ r ih =>
    intro l2 l3 g0 g1 h hm y0 y1 y2 y3 y4 z0 z1  J Sm
    refine x_iloadn (x := l3) rfl rfl ?_
    refine x_sipush (v := 400) rfl ks_400 ?_
    refine x_icge (tgt := 46) rfl rfl (ti_ge rfl jk_400 ⟨fun c1 => ?_, fun c1 => ?_⟩)
    ·
      exact jX.sub (jsb_c rfl (jsb_c rfl (jsb_c rfl jsb_n))) (ct_X2_readPlain_r95_c5_46 hD hQ  l2 g0 g1 h (jr_of rfl (by omega)) (jr_of rfl (by omega)) (jr_of rfl (by omega)) (by omega) z0 z1 J Sm)
    ·
      refine x_aloadn (x := 95) rfl rfl ?_
      refine z_getR (N := 6) (b := 68) 2 0 rfl f_2_30 rfl J rfl 12160 ⟨rfl, rfl⟩ rfl ?_
      refine x_ldcS (jstr.getD 9 jstr_0) rfl (List.mem_of_getElem? (i := 9) rfl) rfl rfl ?_
      show jX m_X2_readPlain 13 0 0 17 [(0, .ref 95), (1, .int 5), (2, .int l2), (3, .int l3)] [.ref 14, .ref 68] _ 0 0 _
      refine x_inv (N := m_X9_wordOf) (As := [.ref 14]) (b := 68) (st := []) (dx9 := 4) (mc := 0) (ms := 0) (host := "") 9 rfl t_X9_wordOf ⟨Or.inl q_2_67, i_X9_wordOf.1, i_X9_wordOf.2⟩ ⟨by decide, rfl⟩ (congrArg Prod.fst (J.1.1 68 (9, 6) rfl)) rfl (by decide) rfl rfl ⟨by decide, by decide⟩ (sf_X9_wordOf_r68_r14  hD J  (fun v3 h J S2 => ?_))
      have ev3 := jfull v3
      have Sm := jSm_tr rfl Sm S2
      show jX m_X2_readPlain 13 0 0 20 [(0, .ref 95), (1, .int 5), (2, .int l2), (3, .int l3)] [.int v3] _ 0 0 _
      refine x_ifne (tgt := 46) rfl rfl (ti_ne rfl jk_0 ⟨fun c4 => ?_, fun c4 => ?_⟩)
      ·
        exact jX.sub (jsb_c rfl (jsb_c rfl (jsb_c rfl jsb_n))) (ct_X2_readPlain_r95_c5_46 hD hQ  l2 g0 g1 h (jr_of rfl (by omega)) (jr_of rfl (by omega)) (jr_of rfl (by omega)) (by omega) (jmc S2 rfl z0) (jmc S2 rfl z1) J Sm)
      ·
        refine x_iloadn (x := l2) rfl rfl ?_
        refine x_ifne (tgt := 31) rfl rfl (ti_ne rfl jk_0 ⟨fun c5 => ?_, fun c5 => ?_⟩)
        ·
          refine x_iconst (v := 0) rfl ki_0 ?_
          exact jX.sub (jsb_c rfl (jsb_c rfl (jsb_c rfl jsb_n))) (ct_X2_readPlain_r95_c5_200032 hD hQ ih l3 g0 g1 h (jr_of rfl (by omega)) (jr_of rfl (by omega)) (jr_of rfl (by omega)) (by omega) (jmc S2 rfl z0) (jmc S2 rfl z1) (by omega) J Sm)
        ·
          refine x_iconst (v := 1) rfl ki_1 ?_
          refine x_goto (tgt := 32) rfl rfl ?_
          exact jX.sub (jsb_c rfl (jsb_c rfl (jsb_c rfl jsb_n))) (ct_X2_readPlain_r95_c5_300032 hD hQ ih l3 g0 g1 h (jr_of rfl (by omega)) (jr_of rfl (by omega)) (jr_of rfl (by omega)) (by omega) (jmc S2 rfl z0) (jmc S2 rfl z1) (by omega) J Sm)
set_option maxRecDepth 100000 in
set_option maxHeartbeats 4000000 in
theorem sf_X2_readPlain_r95_c5 {Dy : jH → Prop} {h : jH} {Q : Option Value → jH → Prop} (hD : jDk Dy) (J : jJ jSgX Dy h) {p0 p1 : Int32} (zp0 : jiv h 68 5 = p0) (zp1 : jiv h 68 3 = p1) (rl_p0 : (p0.toInt ≠ 3 ∨ p1.toInt ≤ 399)) (hQ : ∀ (v : Int32) hx9, 0 ≤ v.toInt ∧ v.toInt ≤ 1 → jJ jSgX Dy hx9 → jSm fp_X2_readPlain_r95_c5 h hx9 → ∀ u0 u1 : Int32, jiv hx9 68 5 = u0 → jiv hx9 68 3 = u1 → (u0.toInt ≠ 3 ∨ u1.toInt ≤ 399) → Q (some (.int v)) hx9) : jC m_X2_readPlain 13 0 0 [.ref 95, .int 5] h Q := by
  refine jC.of rfl k_X2_readPlain rfl ?_
  have Sm := jSm_rf fp_X2_readPlain_r95_c5 h
  have ep0 := (show 0 ≤ p0.toInt ∧ p0.toInt ≤ 3 from zp0 ▸ jrg_f J sg_68_5_6_1_0_1)
  have ep1 := (show 0 ≤ p1.toInt ∧ p1.toInt ≤ 400 from zp1 ▸ jrg_f J sg_68_3_4_1_0_1)
  show jX m_X2_readPlain 13 0 0 0 [(0, .ref 95), (1, .int 5)] [] _ 0 0 _
  refine x_iconst (v := 0) rfl ki_0 ?_
  refine x_istoren (lsx9 := [(2, .int 0), (0, .ref 95), (1, .int 5)]) rfl rfl rfl ?_
  refine x_iconst (v := 0) rfl ki_0 ?_
  refine x_istoren (lsx9 := [(3, .int 0), (2, .int 0), (0, .ref 95), (1, .int 5)]) rfl rfl rfl ?_
  exact jX.sub (jsb_c rfl (jsb_c rfl (jsb_c rfl (jsb_c rfl jsb_n)))) (ct_X2_readPlain_r95_c5_4 hD hQ  401 0 0 p1 p0 h (by have := jk_0; omega) (jr_of jk_0 (by omega)) (jr_of jk_0 (by omega)) (jr_of rfl (by omega)) (jr_of rfl (by omega)) (by omega) zp1 zp0 J Sm)
def fp_X2_readTest_r95_c5 : jFp := [(68, 2, 3), (68, 3, 4), (68, 4, 5), (68, 5, 6), (95, 4, 5), (95, 5, 6), (97, 0, 1200)]
set_option maxRecDepth 100000 in
set_option maxHeartbeats 4000000 in
theorem ct_X2_readTest_r95_c5_77 {Dy : jH → Prop} {h0 : jH} {Q : Option Value → jH → Prop} {R4 : Int} (hD : jDk Dy) (hQ : ∀ (v : Int32) hx9, 0 ≤ v.toInt ∧ v.toInt ≤ 1 → jJ jSgX Dy hx9 → jSm fp_X2_readTest_r95_c5 h0 hx9 → ∀ u0 u1 : Int32, jiv hx9 68 5 = u0 → jiv hx9 68 3 = u1 → (u0.toInt ≠ 3 ∨ u1.toInt ≤ 399) → Q (some (.int v)) hx9) (k4 : ∀ (l2 : Int32) (l3 : Int32) (g0 : Int32) (g1 : Int32) (h : jH), 400 - l3.toInt < R4 → (-1) ≤ l2.toInt ∧ l2.toInt ≤ 1199 → 0 ≤ l3.toInt ∧ l3.toInt ≤ 400 → 0 ≤ g0.toInt ∧ g0.toInt ≤ 400 → 0 ≤ g1.toInt ∧ g1.toInt ≤ 3 → (g1.toInt ≠ 3 ∨ g0.toInt ≤ 399) → jiv h 68 3 = g0 → jiv h 68 5 = g1 → jJ jSgX Dy h → jSm fp_X2_readTest_r95_c5 h0 h → jX m_X2_readTest 14 0 0 4 [(0, .ref 95), (1, .int 5), (2, .int l2), (3, .int l3)] [] h 0 0 Q) : ∀ (l2 : Int32) (l3 : Int32) (g0 : Int32) (g1 : Int32) (h : jH), (-1) ≤ l2.toInt ∧ l2.toInt ≤ 1199 → 0 ≤ l3.toInt ∧ l3.toInt ≤ 399 → 0 ≤ g0.toInt ∧ g0.toInt ≤ 400 → 0 ≤ g1.toInt ∧ g1.toInt ≤ 3 → (g1.toInt ≠ 3 ∨ g0.toInt ≤ 399) → jiv h 68 3 = g0 → jiv h 68 5 = g1 → 400 - l3.toInt ≤ R4 → jJ jSgX Dy h → jSm fp_X2_readTest_r95_c5 h0 h → jX m_X2_readTest 14 0 0 77 [(0, .ref 95), (1, .int 5), (2, .int l2), (3, .int l3)] [] h 0 0 Q := by
  intro l2 l3 g0 g1 h y0 y1 y2 y3 y4 z0 z1 m4 J Sm
  refine x_aloadn (x := 95) rfl rfl ?_
  refine x_iloadn (x := l2) rfl rfl ?_
  refine x_inv (N := m_X2_land) (As := [.int l2]) (b := 95) (st := []) (dx9 := 1) (mc := 0) (ms := 0) (host := "") 2 rfl t_X2_land ⟨Or.inl q_2_124, i_X2_land.1, i_X2_land.2⟩ ⟨by decide, rfl⟩ (congrArg Prod.fst (J.1.1 95 (2, 6) rfl)) rfl (by decide) rfl rfl ⟨by decide, by decide⟩ (sf_X2_land_r95 (jr_of rfl (by omega)) hD J  (fun h J S1 => ?_))
  have Sm := jSm_tr rfl Sm S1
  show jX m_X2_readTest 14 0 0 82 [(0, .ref 95), (1, .int 5), (2, .int l2), (3, .int l3)] [] _ 0 0 _
  refine x_aloadn (x := 95) rfl rfl ?_
  refine z_getR (N := 6) (b := 68) 2 0 rfl f_2_30 rfl J rfl 12160 ⟨rfl, rfl⟩ rfl ?_
  refine x_ldcS (jstr.getD 12 jstr_0) rfl (List.mem_of_getElem? (i := 12) rfl) rfl rfl ?_
  show jX m_X2_readTest 14 0 0 88 [(0, .ref 95), (1, .int 5), (2, .int l2), (3, .int l3)] [.ref 17, .ref 68] _ 0 0 _
  refine x_inv (N := m_X9_wordOf) (As := [.ref 17]) (b := 68) (st := []) (dx9 := 4) (mc := 0) (ms := 0) (host := "") 9 rfl t_X9_wordOf ⟨Or.inl q_2_67, i_X9_wordOf.1, i_X9_wordOf.2⟩ ⟨by decide, rfl⟩ (congrArg Prod.fst (J.1.1 68 (9, 6) rfl)) rfl (by decide) rfl rfl ⟨by decide, by decide⟩ (sf_X9_wordOf_r68_r17  hD J  (fun v3 h J S2 => ?_))
  have ev3 := jfull v3
  have Sm := jSm_tr rfl Sm S2
  show jX m_X2_readTest 14 0 0 91 [(0, .ref 95), (1, .int 5), (2, .int l2), (3, .int l3)] [.int v3] _ 0 0 _
  refine x_ifeq (tgt := 96) rfl rfl (ti_eq rfl jk_0 ⟨fun c4 => ?_, fun c4 => ?_⟩)
  ·
    refine x_aloadn (x := 95) rfl rfl ?_
    refine x_bipush (v := 11) rfl kb_11 ?_
    refine x_inv (N := m_X2_leap) (As := [.int 11]) (b := 95) (st := []) (dx9 := 2) (mc := 0) (ms := 0) (host := "") 2 rfl t_X2_leap ⟨Or.inl q_2_129, i_X2_leap.1, i_X2_leap.2⟩ ⟨by decide, rfl⟩ (congrArg Prod.fst (J.1.1 95 (2, 6) rfl)) rfl (by decide) rfl rfl ⟨by decide, by decide⟩ (sf_X2_leap_r95 (jr_of jk_11 (by omega)) hD J  (fun v6 h ev6 J S5 => ?_))
    have Sm := jSm_tr rfl Sm S5
    show jX m_X2_readTest 14 0 0 102 [(0, .ref 95), (1, .int 5), (2, .int l2), (3, .int l3)] [.int v6] _ 0 0 _
    refine x_istoren (lsx9 := [(2, .int v6), (0, .ref 95), (1, .int 5), (3, .int l3)]) rfl rfl rfl ?_
    refine x_aloadn (x := 95) rfl rfl ?_
    refine z_getR (N := 6) (b := 68) 2 0 rfl f_2_30 rfl J rfl 12160 ⟨rfl, rfl⟩ rfl ?_
    refine x_inv (N := m_X9_step) (As := []) (b := 68) (st := []) (dx9 := 2) (mc := 0) (ms := 0) (host := "") 9 rfl t_X9_step ⟨Or.inl q_2_62, i_X9_step.1, i_X9_step.2⟩ ⟨by decide, rfl⟩ (congrArg Prod.fst (J.1.1 68 (9, 6) rfl)) rfl (by decide) rfl rfl ⟨by decide, by decide⟩ (sf_X9_step_r68  hD J (jmc S5 rfl (jmc S2 rfl (jmc S1 rfl z1))) (jmc S5 rfl (jmc S2 rfl (jmc S1 rfl z0))) (by omega)  (fun h J S7 u8 u9 qu8 qu9 ru8 => ?_))
    have Sm := jSm_tr rfl Sm S7
    have eu8 := (show 0 ≤ u8.toInt ∧ u8.toInt ≤ 3 from qu8 ▸ jrg_f J sg_68_5_6_1_0_1)
    have eu9 := (show 0 ≤ u9.toInt ∧ u9.toInt ≤ 400 from qu9 ▸ jrg_f J sg_68_3_4_1_0_1)
    show jX m_X2_readTest 14 0 0 110 [(2, .int v6), (0, .ref 95), (1, .int 5), (3, .int l3)] [] _ 0 0 _
    refine z_iinc (x := l3) (lsx9 := fun v10 => [(3, .int v10), (2, .int v6), (0, .ref 95), (1, .int 5)]) rfl rfl rfl jko_1 (by omega) rfl (fun _ => rfl) (fun v10 ev10 => ?_)
    refine x_goto (tgt := 4) rfl rfl ?_
    exact jX.sub (jsb_c rfl (jsb_c rfl (jsb_c rfl (jsb_c rfl jsb_n)))) (k4 v6 v10 u9 u8 h (by omega) (jr_of rfl (by omega)) (jr_of rfl (by omega)) (jr_of rfl (by omega)) (jr_of rfl (by omega)) (by omega) qu9 qu8 J Sm)
  ·
    refine x_iconst (v := 1) rfl ki_1 ?_
    refine x_zret rfl rfl (by decide) ?_
    exact hQ _ _ (jr_of jk_1 (by omega)) J Sm _ _ (jmc S2 rfl (jmc S1 rfl z1)) (jmc S2 rfl (jmc S1 rfl z0)) (by omega)
set_option maxRecDepth 100000 in
set_option maxHeartbeats 4000000 in
theorem ct_X2_readTest_r95_c5_17 {Dy : jH → Prop} {h0 : jH} {Q : Option Value → jH → Prop} {R4 : Int} (hD : jDk Dy) (hQ : ∀ (v : Int32) hx9, 0 ≤ v.toInt ∧ v.toInt ≤ 1 → jJ jSgX Dy hx9 → jSm fp_X2_readTest_r95_c5 h0 hx9 → ∀ u0 u1 : Int32, jiv hx9 68 5 = u0 → jiv hx9 68 3 = u1 → (u0.toInt ≠ 3 ∨ u1.toInt ≤ 399) → Q (some (.int v)) hx9) (k4 : ∀ (l2 : Int32) (l3 : Int32) (g0 : Int32) (g1 : Int32) (h : jH), 400 - l3.toInt < R4 → (-1) ≤ l2.toInt ∧ l2.toInt ≤ 1199 → 0 ≤ l3.toInt ∧ l3.toInt ≤ 400 → 0 ≤ g0.toInt ∧ g0.toInt ≤ 400 → 0 ≤ g1.toInt ∧ g1.toInt ≤ 3 → (g1.toInt ≠ 3 ∨ g0.toInt ≤ 399) → jiv h 68 3 = g0 → jiv h 68 5 = g1 → jJ jSgX Dy h → jSm fp_X2_readTest_r95_c5 h0 h → jX m_X2_readTest 14 0 0 4 [(0, .ref 95), (1, .int 5), (2, .int l2), (3, .int l3)] [] h 0 0 Q) : ∀ r : Nat, ∀ (l2 : Int32) (l3 : Int32) (l4 : Int32) (l5 : Int32) (g0 : Int32) (g1 : Int32) (h : jH), 400 - l5.toInt < (r : Int) → (-1) ≤ l2.toInt ∧ l2.toInt ≤ 1199 → 0 ≤ l3.toInt ∧ l3.toInt ≤ 399 → (-1) ≤ l4.toInt ∧ l4.toInt ≤ 1199 → 0 ≤ l5.toInt ∧ l5.toInt ≤ 400 → 0 ≤ g0.toInt ∧ g0.toInt ≤ 400 → 0 ≤ g1.toInt ∧ g1.toInt ≤ 3 → (g1.toInt ≠ 3 ∨ g0.toInt ≤ 399) → jiv h 68 3 = g0 → jiv h 68 5 = g1 → 400 - l3.toInt ≤ R4 → jJ jSgX Dy h → jSm fp_X2_readTest_r95_c5 h0 h → jX m_X2_readTest 14 0 0 17 [(0, .ref 95), (1, .int 5), (2, .int l2), (3, .int l3), (4, .int l4), (5, .int l5)] [] h 0 0 Q := by
  intro r
  induction r with
  | zero =>
    intro l2 l3 l4 l5 g0 g1 h hm y0 y1 y2 y3 y4 y5 y6 z0 z1 m4 J Sm
    exfalso
    omega
  | succ r ih =>
    intro l2 l3 l4 l5 g0 g1 h hm y0 y1 y2 y3 y4 y5 y6 z0 z1 m4 J Sm
    refine x_iload (x := l5) rfl rfl ?_
    refine x_sipush (v := 400) rfl ks_400 ?_
    refine x_icge (tgt := 77) rfl rfl (ti_ge rfl jk_400 ⟨fun c1 => ?_, fun c1 => ?_⟩)
    ·
      exact jX.sub (jsb_c rfl (jsb_c rfl (jsb_c rfl (jsb_c rfl jsb_n)))) (ct_X2_readTest_r95_c5_77 hD hQ k4 l2 l3 g0 g1 h (jr_of rfl (by omega)) (jr_of rfl (by omega)) (jr_of rfl (by omega)) (jr_of rfl (by omega)) (by omega) z0 z1 (by omega) J Sm)
    ·
      refine x_aloadn (x := 95) rfl rfl ?_
      refine x_iloadn (x := 5) rfl rfl ?_
      refine x_inv (N := m_X2_readPlain) (As := [.int 5]) (b := 95) (st := []) (dx9 := 13) (mc := 0) (ms := 0) (host := "") 2 rfl t_X2_readPlain ⟨Or.inl q_2_121, i_X2_readPlain.1, i_X2_readPlain.2⟩ ⟨by decide, rfl⟩ (congrArg Prod.fst (J.1.1 95 (2, 6) rfl)) rfl (by decide) rfl rfl ⟨by decide, by decide⟩ (sf_X2_readPlain_r95_c5  hD J z1 z0 (by omega)  (fun v5 h ev5 J S2 u3 u4 qu3 qu4 ru3 => ?_))
      have Sm := jSm_tr rfl Sm S2
      have eu3 := (show 0 ≤ u3.toInt ∧ u3.toInt ≤ 3 from qu3 ▸ jrg_f J sg_68_5_6_1_0_1)
      have eu4 := (show 0 ≤ u4.toInt ∧ u4.toInt ≤ 400 from qu4 ▸ jrg_f J sg_68_3_4_1_0_1)
      show jX m_X2_readTest 14 0 0 30 [(0, .ref 95), (1, .int 5), (2, .int l2), (3, .int l3), (4, .int l4), (5, .int l5)] [.int v5] _ 0 0 _
      refine x_ifne (tgt := 35) rfl rfl (ti_ne rfl jk_0 ⟨fun c6 => ?_, fun c6 => ?_⟩)
      ·
        refine x_aloadn (x := 95) rfl rfl ?_
        refine x_iload (x := l4) rfl rfl ?_
        refine x_inv (N := m_X2_land) (As := [.int l4]) (b := 95) (st := []) (dx9 := 1) (mc := 0) (ms := 0) (host := "") 2 rfl t_X2_land ⟨Or.inl q_2_124, i_X2_land.1, i_X2_land.2⟩ ⟨by decide, rfl⟩ (congrArg Prod.fst (J.1.1 95 (2, 6) rfl)) rfl (by decide) rfl rfl ⟨by decide, by decide⟩ (sf_X2_land_r95 (jr_of rfl (by omega)) hD J  (fun h J S7 => ?_))
        have Sm := jSm_tr rfl Sm S7
        show jX m_X2_readTest 14 0 0 41 [(0, .ref 95), (1, .int 5), (2, .int l2), (3, .int l3), (4, .int l4), (5, .int l5)] [] _ 0 0 _
        refine x_aloadn (x := 95) rfl rfl ?_
        refine z_getR (N := 6) (b := 68) 2 0 rfl f_2_30 rfl J rfl 12160 ⟨rfl, rfl⟩ rfl ?_
        refine x_ldcS (jstr.getD 11 jstr_0) rfl (List.mem_of_getElem? (i := 11) rfl) rfl rfl ?_
        show jX m_X2_readTest 14 0 0 47 [(0, .ref 95), (1, .int 5), (2, .int l2), (3, .int l3), (4, .int l4), (5, .int l5)] [.ref 16, .ref 68] _ 0 0 _
        refine x_inv (N := m_X9_wordOf) (As := [.ref 16]) (b := 68) (st := []) (dx9 := 4) (mc := 0) (ms := 0) (host := "") 9 rfl t_X9_wordOf ⟨Or.inl q_2_67, i_X9_wordOf.1, i_X9_wordOf.2⟩ ⟨by decide, rfl⟩ (congrArg Prod.fst (J.1.1 68 (9, 6) rfl)) rfl (by decide) rfl rfl ⟨by decide, by decide⟩ (sf_X9_wordOf_r68_r16  hD J  (fun v9 h J S8 => ?_))
        have ev9 := jfull v9
        have Sm := jSm_tr rfl Sm S8
        show jX m_X2_readTest 14 0 0 50 [(0, .ref 95), (1, .int 5), (2, .int l2), (3, .int l3), (4, .int l4), (5, .int l5)] [.int v9] _ 0 0 _
        refine x_ifeq (tgt := 56) rfl rfl (ti_eq rfl jk_0 ⟨fun c10 => ?_, fun c10 => ?_⟩)
        ·
          refine x_aloadn (x := 95) rfl rfl ?_
          refine x_bipush (v := 12) rfl kb_12 ?_
          refine x_inv (N := m_X2_leap) (As := [.int 12]) (b := 95) (st := []) (dx9 := 2) (mc := 0) (ms := 0) (host := "") 2 rfl t_X2_leap ⟨Or.inl q_2_129, i_X2_leap.1, i_X2_leap.2⟩ ⟨by decide, rfl⟩ (congrArg Prod.fst (J.1.1 95 (2, 6) rfl)) rfl (by decide) rfl rfl ⟨by decide, by decide⟩ (sf_X2_leap_r95 (jr_of jk_12 (by omega)) hD J  (fun v12 h ev12 J S11 => ?_))
          have Sm := jSm_tr rfl Sm S11
          show jX m_X2_readTest 14 0 0 62 [(0, .ref 95), (1, .int 5), (2, .int l2), (3, .int l3), (4, .int l4), (5, .int l5)] [.int v12] _ 0 0 _
          refine x_istore (lsx9 := [(4, .int v12), (0, .ref 95), (1, .int 5), (2, .int l2), (3, .int l3), (5, .int l5)]) rfl rfl rfl ?_
          refine x_aloadn (x := 95) rfl rfl ?_
          refine z_getR (N := 6) (b := 68) 2 0 rfl f_2_30 rfl J rfl 12160 ⟨rfl, rfl⟩ rfl ?_
          refine x_inv (N := m_X9_step) (As := []) (b := 68) (st := []) (dx9 := 2) (mc := 0) (ms := 0) (host := "") 9 rfl t_X9_step ⟨Or.inl q_2_62, i_X9_step.1, i_X9_step.2⟩ ⟨by decide, rfl⟩ (congrArg Prod.fst (J.1.1 68 (9, 6) rfl)) rfl (by decide) rfl rfl ⟨by decide, by decide⟩ (sf_X9_step_r68  hD J (jmc S11 rfl (jmc S8 rfl (jmc S7 rfl qu3))) (jmc S11 rfl (jmc S8 rfl (jmc S7 rfl qu4))) (by omega)  (fun h J S13 u14 u15 qu14 qu15 ru14 => ?_))
          have Sm := jSm_tr rfl Sm S13
          have eu14 := (show 0 ≤ u14.toInt ∧ u14.toInt ≤ 3 from qu14 ▸ jrg_f J sg_68_5_6_1_0_1)
          have eu15 := (show 0 ≤ u15.toInt ∧ u15.toInt ≤ 400 from qu15 ▸ jrg_f J sg_68_3_4_1_0_1)
          show jX m_X2_readTest 14 0 0 71 [(4, .int v12), (0, .ref 95), (1, .int 5), (2, .int l2), (3, .int l3), (5, .int l5)] [] _ 0 0 _
          refine z_iinc (x := l5) (lsx9 := fun v16 => [(5, .int v16), (4, .int v12), (0, .ref 95), (1, .int 5), (2, .int l2), (3, .int l3)]) rfl rfl rfl jko_1 (by omega) rfl (fun _ => rfl) (fun v16 ev16 => ?_)
          refine x_goto (tgt := 17) rfl rfl ?_
          exact jX.sub (jsb_c rfl (jsb_c rfl (jsb_c rfl (jsb_c rfl (jsb_c rfl (jsb_c rfl jsb_n)))))) (ih l2 l3 v12 v16 u15 u14 h (by omega) (jr_of rfl (by omega)) (jr_of rfl (by omega)) (jr_of rfl (by omega)) (jr_of rfl (by omega)) (jr_of rfl (by omega)) (jr_of rfl (by omega)) (by omega) qu15 qu14 (by omega) J Sm)
        ·
          refine x_goto (tgt := 77) rfl rfl ?_
          exact jX.sub (jsb_c rfl (jsb_c rfl (jsb_c rfl (jsb_c rfl jsb_n)))) (ct_X2_readTest_r95_c5_77 hD hQ k4 l2 l3 u4 u3 h (jr_of rfl (by omega)) (jr_of rfl (by omega)) (jr_of rfl (by omega)) (jr_of rfl (by omega)) (by omega) (jmc S8 rfl (jmc S7 rfl qu4)) (jmc S8 rfl (jmc S7 rfl qu3)) (by omega) J Sm)
      ·
        refine x_iconst (v := 0) rfl ki_0 ?_
        refine x_zret rfl rfl (by decide) ?_
        exact hQ _ _ (jr_of jk_0 (by omega)) J Sm _ _ qu3 qu4 (by omega)
set_option maxRecDepth 100000 in
set_option maxHeartbeats 4000000 in
theorem ct_X2_readTest_r95_c5_4 {Dy : jH → Prop} {h0 : jH} {Q : Option Value → jH → Prop} (hD : jDk Dy) (hQ : ∀ (v : Int32) hx9, 0 ≤ v.toInt ∧ v.toInt ≤ 1 → jJ jSgX Dy hx9 → jSm fp_X2_readTest_r95_c5 h0 hx9 → ∀ u0 u1 : Int32, jiv hx9 68 5 = u0 → jiv hx9 68 3 = u1 → (u0.toInt ≠ 3 ∨ u1.toInt ≤ 399) → Q (some (.int v)) hx9) : ∀ r : Nat, ∀ (l2 : Int32) (l3 : Int32) (g0 : Int32) (g1 : Int32) (h : jH), 400 - l3.toInt < (r : Int) → (-1) ≤ l2.toInt ∧ l2.toInt ≤ 1199 → 0 ≤ l3.toInt ∧ l3.toInt ≤ 400 → 0 ≤ g0.toInt ∧ g0.toInt ≤ 400 → 0 ≤ g1.toInt ∧ g1.toInt ≤ 3 → (g1.toInt ≠ 3 ∨ g0.toInt ≤ 399) → jiv h 68 3 = g0 → jiv h 68 5 = g1 → jJ jSgX Dy h → jSm fp_X2_readTest_r95_c5 h0 h → jX m_X2_readTest 14 0 0 4 [(0, .ref 95), (1, .int 5), (2, .int l2), (3, .int l3)] [] h 0 0 Q := by
  intro r
  induction r with
  | zero =>
    intro l2 l3 g0 g1 h hm y0 y1 y2 y3 y4 z0 z1  J Sm
    exfalso
    omega
  | succ r ih =>
    intro l2 l3 g0 g1 h hm y0 y1 y2 y3 y4 z0 z1  J Sm
    refine x_iloadn (x := l3) rfl rfl ?_
    refine x_sipush (v := 400) rfl ks_400 ?_
    refine x_icge (tgt := 116) rfl rfl (ti_ge rfl jk_400 ⟨fun c1 => ?_, fun c1 => ?_⟩)
    ·
      refine x_aloadn (x := 95) rfl rfl ?_
      refine z_getR (N := 6) (b := 68) 2 0 rfl f_2_30 rfl J rfl 12160 ⟨rfl, rfl⟩ rfl ?_
      refine x_inv (N := m_X9_blame) (As := []) (b := 68) (st := []) (dx9 := 13) (mc := 0) (ms := 0) (host := "") 9 rfl t_X9_blame ⟨Or.inl q_2_59, i_X9_blame.1, i_X9_blame.2⟩ ⟨by decide, rfl⟩ (congrArg Prod.fst (J.1.1 68 (9, 6) rfl)) rfl (by decide) rfl rfl ⟨by decide, by decide⟩ (jC.of rfl k_X9_blame rfl ?_)
      show jX m_X9_blame 13 0 0 0 [(0, .ref 68)] [] _ 0 0 _
      refine x_aloadn (x := 68) rfl rfl ?_
      refine x_aloadn (x := 68) rfl rfl ?_
      refine z_getM (N := 6) (v := g0) 9 3 rfl f_9_22 rfl J rfl z0 ?_
      refine z_putI (N := 6) (w := g0.toInt) 9 2 rfl f_9_19 rfl (jfin_no TX9 RX9 6 rfl rfl) hD J Sm rfl rfl rfl (pw_68_2 (by omega)) rfl (fun h w2 J Sm => ?_)
      refine x_iconst (v := 0) rfl ki_0 ?_
      refine x_zret rfl rfl (by decide) ?_
      show jX m_X2_readTest 14 0 0 123 [(0, .ref 95), (1, .int 5), (2, .int l2), (3, .int l3)] [.int 0] _ 0 0 _
      refine x_zret rfl rfl (by decide) ?_
      exact hQ _ _ (jr_of jk_0 (by omega)) J Sm _ _ (jmo w2 rfl z1) (jmo w2 rfl z0) (by omega)
    ·
      refine x_iconst (v := (-1)) rfl ki_m1 ?_
      refine x_istore (lsx9 := [(4, .int (-1)), (0, .ref 95), (1, .int 5), (2, .int l2), (3, .int l3)]) rfl rfl rfl ?_
      refine x_iconst (v := 0) rfl ki_0 ?_
      refine x_istore (lsx9 := [(5, .int 0), (4, .int (-1)), (0, .ref 95), (1, .int 5), (2, .int l2), (3, .int l3)]) rfl rfl rfl ?_
      exact jX.sub (jsb_c rfl (jsb_c rfl (jsb_c rfl (jsb_c rfl (jsb_c rfl (jsb_c rfl jsb_n)))))) (ct_X2_readTest_r95_c5_17 hD hQ ih 401 l2 l3 (-1) 0 g0 g1 h (by have := jk_0; omega) (jr_of rfl (by omega)) (jr_of rfl (by omega)) (jr_of jk_m1 (by omega)) (jr_of jk_0 (by omega)) (jr_of rfl (by omega)) (jr_of rfl (by omega)) (by omega) z0 z1 (by omega) J Sm)
set_option maxRecDepth 100000 in
set_option maxHeartbeats 4000000 in
theorem sf_X2_readTest_r95_c5 {Dy : jH → Prop} {h : jH} {Q : Option Value → jH → Prop} (hD : jDk Dy) (J : jJ jSgX Dy h) {p0 p1 : Int32} (zp0 : jiv h 68 5 = p0) (zp1 : jiv h 68 3 = p1) (rl_p0 : (p0.toInt ≠ 3 ∨ p1.toInt ≤ 399)) (hQ : ∀ (v : Int32) hx9, 0 ≤ v.toInt ∧ v.toInt ≤ 1 → jJ jSgX Dy hx9 → jSm fp_X2_readTest_r95_c5 h hx9 → ∀ u0 u1 : Int32, jiv hx9 68 5 = u0 → jiv hx9 68 3 = u1 → (u0.toInt ≠ 3 ∨ u1.toInt ≤ 399) → Q (some (.int v)) hx9) : jC m_X2_readTest 14 0 0 [.ref 95, .int 5] h Q := by
  refine jC.of rfl k_X2_readTest rfl ?_
  have Sm := jSm_rf fp_X2_readTest_r95_c5 h
  have ep0 := (show 0 ≤ p0.toInt ∧ p0.toInt ≤ 3 from zp0 ▸ jrg_f J sg_68_5_6_1_0_1)
  have ep1 := (show 0 ≤ p1.toInt ∧ p1.toInt ≤ 400 from zp1 ▸ jrg_f J sg_68_3_4_1_0_1)
  show jX m_X2_readTest 14 0 0 0 [(0, .ref 95), (1, .int 5)] [] _ 0 0 _
  refine x_iconst (v := (-1)) rfl ki_m1 ?_
  refine x_istoren (lsx9 := [(2, .int (-1)), (0, .ref 95), (1, .int 5)]) rfl rfl rfl ?_
  refine x_iconst (v := 0) rfl ki_0 ?_
  refine x_istoren (lsx9 := [(3, .int 0), (2, .int (-1)), (0, .ref 95), (1, .int 5)]) rfl rfl rfl ?_
  exact jX.sub (jsb_c rfl (jsb_c rfl (jsb_c rfl (jsb_c rfl jsb_n)))) (ct_X2_readTest_r95_c5_4 hD hQ  401 (-1) 0 p1 p0 h (by have := jk_0; omega) (jr_of jk_m1 (by omega)) (jr_of jk_0 (by omega)) (jr_of rfl (by omega)) (jr_of rfl (by omega)) (by omega) zp1 zp0 J Sm)
def fp_X2_readPlain_r95_c4 : jFp := [(68, 2, 3), (68, 3, 4), (68, 4, 5), (68, 5, 6), (95, 4, 5), (95, 5, 6), (97, 0, 1200)]
set_option maxRecDepth 100000 in
set_option maxHeartbeats 4000000 in
theorem ct_X2_readPlain_r95_c4_239 {Dy : jH → Prop} {h0 : jH} {Q : Option Value → jH → Prop} (hD : jDk Dy) (hQ : ∀ (v : Int32) hx9, 0 ≤ v.toInt ∧ v.toInt ≤ 1 → jJ jSgX Dy hx9 → jSm fp_X2_readPlain_r95_c4 h0 hx9 → ∀ u0 u1 : Int32, jiv hx9 68 5 = u0 → jiv hx9 68 3 = u1 → (u0.toInt ≠ 3 ∨ u1.toInt ≤ 399) → Q (some (.int v)) hx9) : ∀ (g0 : Int32) (g1 : Int32) (h : jH), 0 ≤ g0.toInt ∧ g0.toInt ≤ 400 → 0 ≤ g1.toInt ∧ g1.toInt ≤ 3 → (g1.toInt ≠ 3 ∨ g0.toInt ≤ 399) → jiv h 68 3 = g0 → jiv h 68 5 = g1 → jJ jSgX Dy h → jSm fp_X2_readPlain_r95_c4 h0 h → jX m_X2_readPlain 15 0 0 239 [] [] h 0 0 Q := by
  intro g0 g1 h y0 y1 y2 z0 z1  J Sm
  refine x_iconst (v := 1) rfl ki_1 ?_
  refine x_zret rfl rfl (by decide) ?_
  exact hQ _ _ (jr_of jk_1 (by omega)) J Sm _ _ z1 z0 (by omega)
set_option maxRecDepth 100000 in
set_option maxHeartbeats 4000000 in
theorem ct_X2_readPlain_r95_c4_229 {Dy : jH → Prop} {h0 : jH} {Q : Option Value → jH → Prop} (hD : jDk Dy) (hQ : ∀ (v : Int32) hx9, 0 ≤ v.toInt ∧ v.toInt ≤ 1 → jJ jSgX Dy hx9 → jSm fp_X2_readPlain_r95_c4 h0 hx9 → ∀ u0 u1 : Int32, jiv hx9 68 5 = u0 → jiv hx9 68 3 = u1 → (u0.toInt ≠ 3 ∨ u1.toInt ≤ 399) → Q (some (.int v)) hx9) : ∀ (l2 : Int32) (g0 : Int32) (g1 : Int32) (h : jH), 0 ≤ l2.toInt ∧ l2.toInt ≤ 1 → 0 ≤ g0.toInt ∧ g0.toInt ≤ 400 → 0 ≤ g1.toInt ∧ g1.toInt ≤ 3 → (g1.toInt ≠ 3 ∨ g0.toInt ≤ 399) → jiv h 68 3 = g0 → jiv h 68 5 = g1 → jJ jSgX Dy h → jSm fp_X2_readPlain_r95_c4 h0 h → jX m_X2_readPlain 15 0 0 229 [(0, .ref 95), (2, .int l2)] [] h 0 0 Q := by
  intro l2 g0 g1 h y0 y1 y2 y3 z0 z1  J Sm
  refine x_iloadn (x := l2) rfl rfl ?_
  refine x_ifeq (tgt := 239) rfl rfl (ti_eq rfl jk_0 ⟨fun c1 => ?_, fun c1 => ?_⟩)
  ·
    exact jX.sub jsb_n (ct_X2_readPlain_r95_c4_239 hD hQ  g0 g1 h (jr_of rfl (by omega)) (jr_of rfl (by omega)) (by omega) z0 z1 J Sm)
  ·
    refine x_aloadn (x := 95) rfl rfl ?_
    refine x_bipush (v := 10) rfl kb_10 ?_
    refine x_inv (N := m_X2_emit) (As := [.int 10]) (b := 95) (st := []) (dx9 := 1) (mc := 0) (ms := 0) (host := "") 2 rfl t_X2_emit ⟨Or.inl q_2_89, i_X2_emit.1, i_X2_emit.2⟩ ⟨by decide, rfl⟩ (congrArg Prod.fst (J.1.1 95 (2, 6) rfl)) rfl (by decide) rfl rfl ⟨by decide, by decide⟩ (sf_X2_emit_r95  hD J  (fun h J S2 => ?_))
    have Sm := jSm_tr rfl Sm S2
    show jX m_X2_readPlain 15 0 0 239 [(0, .ref 95), (2, .int l2)] [] _ 0 0 _
    exact jX.sub jsb_n (ct_X2_readPlain_r95_c4_239 hD hQ  g0 g1 h (jr_of rfl (by omega)) (jr_of rfl (by omega)) (by omega) (jmc S2 rfl z0) (jmc S2 rfl z1) J Sm)
set_option maxRecDepth 100000 in
set_option maxHeartbeats 4000000 in
theorem ct_X2_readPlain_r95_c4_100190 {Dy : jH → Prop} {h0 : jH} {Q : Option Value → jH → Prop} (hD : jDk Dy) (hQ : ∀ (v : Int32) hx9, 0 ≤ v.toInt ∧ v.toInt ≤ 1 → jJ jSgX Dy hx9 → jSm fp_X2_readPlain_r95_c4 h0 hx9 → ∀ u0 u1 : Int32, jiv hx9 68 5 = u0 → jiv hx9 68 3 = u1 → (u0.toInt ≠ 3 ∨ u1.toInt ≤ 399) → Q (some (.int v)) hx9) : ∀ (l2 : Int32) (g0 : Int32) (g1 : Int32) (h : jH), 0 ≤ l2.toInt ∧ l2.toInt ≤ 1 → 0 ≤ g0.toInt ∧ g0.toInt ≤ 400 → 0 ≤ g1.toInt ∧ g1.toInt ≤ 3 → (g1.toInt ≠ 3 ∨ g0.toInt ≤ 399) → jiv h 68 3 = g0 → jiv h 68 5 = g1 → jJ jSgX Dy h → jSm fp_X2_readPlain_r95_c4 h0 h → jX m_X2_readPlain 15 0 0 190 [(0, .ref 95), (1, .int 4), (2, .int l2)] [.int (-1)] h 0 0 Q := by
  intro l2 g0 g1 h y0 y1 y2 y3 z0 z1  J Sm
  refine x_istore (lsx9 := [(4, .int (-1)), (0, .ref 95), (1, .int 4), (2, .int l2)]) rfl rfl rfl ?_
  refine x_iload (x := (-1)) rfl rfl ?_
  refine x_iconst (v := (-1)) rfl ki_m1 ?_
  refine x_icne (tgt := 206) rfl rfl (ti_ne jk_m1 jk_m1 (bn_f (by omega) ?_))
  refine x_aloadn (x := 95) rfl rfl ?_
  refine z_getR (N := 6) (b := 68) 2 0 rfl f_2_30 rfl J rfl 12160 ⟨rfl, rfl⟩ rfl ?_
  refine x_inv (N := m_X9_blame) (As := []) (b := 68) (st := []) (dx9 := 14) (mc := 0) (ms := 0) (host := "") 9 rfl t_X9_blame ⟨Or.inl q_2_59, i_X9_blame.1, i_X9_blame.2⟩ ⟨by decide, rfl⟩ (congrArg Prod.fst (J.1.1 68 (9, 6) rfl)) rfl (by decide) rfl rfl ⟨by decide, by decide⟩ (jC.of rfl k_X9_blame rfl ?_)
  show jX m_X9_blame 14 0 0 0 [(0, .ref 68)] [] _ 0 0 _
  refine x_aloadn (x := 68) rfl rfl ?_
  refine x_aloadn (x := 68) rfl rfl ?_
  refine z_getM (N := 6) (v := g0) 9 3 rfl f_9_22 rfl J rfl z0 ?_
  refine z_putI (N := 6) (w := g0.toInt) 9 2 rfl f_9_19 rfl (jfin_no TX9 RX9 6 rfl rfl) hD J Sm rfl rfl rfl (pw_68_2 (by omega)) rfl (fun h w1 J Sm => ?_)
  refine x_iconst (v := 0) rfl ki_0 ?_
  refine x_zret rfl rfl (by decide) ?_
  show jX m_X2_readPlain 15 0 0 205 [(4, .int (-1)), (0, .ref 95), (1, .int 4), (2, .int l2)] [.int 0] _ 0 0 _
  refine x_zret rfl rfl (by decide) ?_
  exact hQ _ _ (jr_of jk_0 (by omega)) J Sm _ _ (jmo w1 rfl z1) (jmo w1 rfl z0) (by omega)
set_option maxRecDepth 100000 in
set_option maxHeartbeats 4000000 in
theorem ct_X2_readPlain_r95_c4_190 {Dy : jH → Prop} {h0 : jH} {Q : Option Value → jH → Prop} (hD : jDk Dy) (hQ : ∀ (v : Int32) hx9, 0 ≤ v.toInt ∧ v.toInt ≤ 1 → jJ jSgX Dy hx9 → jSm fp_X2_readPlain_r95_c4 h0 hx9 → ∀ u0 u1 : Int32, jiv hx9 68 5 = u0 → jiv hx9 68 3 = u1 → (u0.toInt ≠ 3 ∨ u1.toInt ≤ 399) → Q (some (.int v)) hx9) : ∀ (l2 : Int32) (g0 : Int32) (g1 : Int32) (h : jH), 0 ≤ l2.toInt ∧ l2.toInt ≤ 1 → 0 ≤ g0.toInt ∧ g0.toInt ≤ 400 → 0 ≤ g1.toInt ∧ g1.toInt ≤ 3 → (g1.toInt ≠ 3 ∨ g0.toInt ≤ 399) → jiv h 68 3 = g0 → jiv h 68 5 = g1 → jJ jSgX Dy h → jSm fp_X2_readPlain_r95_c4 h0 h → jX m_X2_readPlain 15 0 0 190 [(0, .ref 95), (1, .int 4), (2, .int l2)] [.int 9] h 0 0 Q := by
  intro l2 g0 g1 h y0 y1 y2 y3 z0 z1  J Sm
  refine x_istore (lsx9 := [(4, .int 9), (0, .ref 95), (1, .int 4), (2, .int l2)]) rfl rfl rfl ?_
  refine x_iload (x := 9) rfl rfl ?_
  refine x_iconst (v := (-1)) rfl ki_m1 ?_
  refine x_icne (tgt := 206) rfl rfl (ti_ne jk_9 jk_m1 (bn_t (by omega) ?_))
  refine x_aloadn (x := 95) rfl rfl ?_
  refine z_getR (N := 6) (b := 68) 2 0 rfl f_2_30 rfl J rfl 12160 ⟨rfl, rfl⟩ rfl ?_
  refine x_inv (N := m_X9_step) (As := []) (b := 68) (st := []) (dx9 := 2) (mc := 0) (ms := 0) (host := "") 9 rfl t_X9_step ⟨Or.inl q_2_62, i_X9_step.1, i_X9_step.2⟩ ⟨by decide, rfl⟩ (congrArg Prod.fst (J.1.1 68 (9, 6) rfl)) rfl (by decide) rfl rfl ⟨by decide, by decide⟩ (sf_X9_step_r68  hD J z1 z0 (by omega)  (fun h J S1 u2 u3 qu2 qu3 ru2 => ?_))
  have Sm := jSm_tr rfl Sm S1
  have eu2 := (show 0 ≤ u2.toInt ∧ u2.toInt ≤ 3 from qu2 ▸ jrg_f J sg_68_5_6_1_0_1)
  have eu3 := (show 0 ≤ u3.toInt ∧ u3.toInt ≤ 400 from qu3 ▸ jrg_f J sg_68_3_4_1_0_1)
  show jX m_X2_readPlain 15 0 0 213 [(4, .int 9), (0, .ref 95), (1, .int 4), (2, .int l2)] [] _ 0 0 _
  refine x_aloadn (x := 95) rfl rfl ?_
  refine x_iloadn (x := 4) rfl rfl ?_
  refine x_inv (N := m_X2_readSum) (As := [.int 4]) (b := 95) (st := []) (dx9 := 14) (mc := 0) (ms := 0) (host := "") 2 rfl t_X2_readSum ⟨Or.inl q_2_86, i_X2_readSum.1, i_X2_readSum.2⟩ ⟨by decide, rfl⟩ (congrArg Prod.fst (J.1.1 95 (2, 6) rfl)) rfl (by decide) rfl rfl ⟨by decide, by decide⟩ (sf_X2_readSum_r95_c4  hD J qu2 qu3 (by omega)  (fun v7 h ev7 J S4 u5 u6 qu5 qu6 ru5 => ?_))
  have Sm := jSm_tr rfl Sm S4
  have eu5 := (show 0 ≤ u5.toInt ∧ u5.toInt ≤ 3 from qu5 ▸ jrg_f J sg_68_5_6_1_0_1)
  have eu6 := (show 0 ≤ u6.toInt ∧ u6.toInt ≤ 400 from qu6 ▸ jrg_f J sg_68_3_4_1_0_1)
  show jX m_X2_readPlain 15 0 0 218 [(4, .int 9), (0, .ref 95), (1, .int 4), (2, .int l2)] [.int v7] _ 0 0 _
  refine x_ifne (tgt := 223) rfl rfl (ti_ne rfl jk_0 ⟨fun c8 => ?_, fun c8 => ?_⟩)
  ·
    refine x_aloadn (x := 95) rfl rfl ?_
    refine x_iload (x := 9) rfl rfl ?_
    refine x_inv (N := m_X2_emit) (As := [.int 9]) (b := 95) (st := []) (dx9 := 1) (mc := 0) (ms := 0) (host := "") 2 rfl t_X2_emit ⟨Or.inl q_2_89, i_X2_emit.1, i_X2_emit.2⟩ ⟨by decide, rfl⟩ (congrArg Prod.fst (J.1.1 95 (2, 6) rfl)) rfl (by decide) rfl rfl ⟨by decide, by decide⟩ (sf_X2_emit_r95  hD J  (fun h J S9 => ?_))
    have Sm := jSm_tr rfl Sm S9
    show jX m_X2_readPlain 15 0 0 229 [(4, .int 9), (0, .ref 95), (1, .int 4), (2, .int l2)] [] _ 0 0 _
    exact jX.sub (jsb_c rfl (jsb_c rfl jsb_n)) (ct_X2_readPlain_r95_c4_229 hD hQ  l2 u6 u5 h (jr_of rfl (by omega)) (jr_of rfl (by omega)) (jr_of rfl (by omega)) (by omega) (jmc S9 rfl qu6) (jmc S9 rfl qu5) J Sm)
  ·
    refine x_iconst (v := 0) rfl ki_0 ?_
    refine x_zret rfl rfl (by decide) ?_
    exact hQ _ _ (jr_of jk_0 (by omega)) J Sm _ _ qu5 qu6 (by omega)
set_option maxRecDepth 100000 in
set_option maxHeartbeats 4000000 in
theorem ct_X2_readPlain_r95_c4_1000190 {Dy : jH → Prop} {h0 : jH} {Q : Option Value → jH → Prop} (hD : jDk Dy) (hQ : ∀ (v : Int32) hx9, 0 ≤ v.toInt ∧ v.toInt ≤ 1 → jJ jSgX Dy hx9 → jSm fp_X2_readPlain_r95_c4 h0 hx9 → ∀ u0 u1 : Int32, jiv hx9 68 5 = u0 → jiv hx9 68 3 = u1 → (u0.toInt ≠ 3 ∨ u1.toInt ≤ 399) → Q (some (.int v)) hx9) : ∀ (l2 : Int32) (g0 : Int32) (g1 : Int32) (h : jH), 0 ≤ l2.toInt ∧ l2.toInt ≤ 1 → 0 ≤ g0.toInt ∧ g0.toInt ≤ 400 → 0 ≤ g1.toInt ∧ g1.toInt ≤ 3 → (g1.toInt ≠ 3 ∨ g0.toInt ≤ 399) → jiv h 68 3 = g0 → jiv h 68 5 = g1 → jJ jSgX Dy h → jSm fp_X2_readPlain_r95_c4 h0 h → jX m_X2_readPlain 15 0 0 190 [(0, .ref 95), (1, .int 4), (2, .int l2)] [.int 8] h 0 0 Q := by
  intro l2 g0 g1 h y0 y1 y2 y3 z0 z1  J Sm
  refine x_istore (lsx9 := [(4, .int 8), (0, .ref 95), (1, .int 4), (2, .int l2)]) rfl rfl rfl ?_
  refine x_iload (x := 8) rfl rfl ?_
  refine x_iconst (v := (-1)) rfl ki_m1 ?_
  refine x_icne (tgt := 206) rfl rfl (ti_ne jk_8 jk_m1 (bn_t (by omega) ?_))
  refine x_aloadn (x := 95) rfl rfl ?_
  refine z_getR (N := 6) (b := 68) 2 0 rfl f_2_30 rfl J rfl 12160 ⟨rfl, rfl⟩ rfl ?_
  refine x_inv (N := m_X9_step) (As := []) (b := 68) (st := []) (dx9 := 2) (mc := 0) (ms := 0) (host := "") 9 rfl t_X9_step ⟨Or.inl q_2_62, i_X9_step.1, i_X9_step.2⟩ ⟨by decide, rfl⟩ (congrArg Prod.fst (J.1.1 68 (9, 6) rfl)) rfl (by decide) rfl rfl ⟨by decide, by decide⟩ (sf_X9_step_r68  hD J z1 z0 (by omega)  (fun h J S1 u2 u3 qu2 qu3 ru2 => ?_))
  have Sm := jSm_tr rfl Sm S1
  have eu2 := (show 0 ≤ u2.toInt ∧ u2.toInt ≤ 3 from qu2 ▸ jrg_f J sg_68_5_6_1_0_1)
  have eu3 := (show 0 ≤ u3.toInt ∧ u3.toInt ≤ 400 from qu3 ▸ jrg_f J sg_68_3_4_1_0_1)
  show jX m_X2_readPlain 15 0 0 213 [(4, .int 8), (0, .ref 95), (1, .int 4), (2, .int l2)] [] _ 0 0 _
  refine x_aloadn (x := 95) rfl rfl ?_
  refine x_iloadn (x := 4) rfl rfl ?_
  refine x_inv (N := m_X2_readSum) (As := [.int 4]) (b := 95) (st := []) (dx9 := 14) (mc := 0) (ms := 0) (host := "") 2 rfl t_X2_readSum ⟨Or.inl q_2_86, i_X2_readSum.1, i_X2_readSum.2⟩ ⟨by decide, rfl⟩ (congrArg Prod.fst (J.1.1 95 (2, 6) rfl)) rfl (by decide) rfl rfl ⟨by decide, by decide⟩ (sf_X2_readSum_r95_c4  hD J qu2 qu3 (by omega)  (fun v7 h ev7 J S4 u5 u6 qu5 qu6 ru5 => ?_))
  have Sm := jSm_tr rfl Sm S4
  have eu5 := (show 0 ≤ u5.toInt ∧ u5.toInt ≤ 3 from qu5 ▸ jrg_f J sg_68_5_6_1_0_1)
  have eu6 := (show 0 ≤ u6.toInt ∧ u6.toInt ≤ 400 from qu6 ▸ jrg_f J sg_68_3_4_1_0_1)
  show jX m_X2_readPlain 15 0 0 218 [(4, .int 8), (0, .ref 95), (1, .int 4), (2, .int l2)] [.int v7] _ 0 0 _
  refine x_ifne (tgt := 223) rfl rfl (ti_ne rfl jk_0 ⟨fun c8 => ?_, fun c8 => ?_⟩)
  ·
    refine x_aloadn (x := 95) rfl rfl ?_
    refine x_iload (x := 8) rfl rfl ?_
    refine x_inv (N := m_X2_emit) (As := [.int 8]) (b := 95) (st := []) (dx9 := 1) (mc := 0) (ms := 0) (host := "") 2 rfl t_X2_emit ⟨Or.inl q_2_89, i_X2_emit.1, i_X2_emit.2⟩ ⟨by decide, rfl⟩ (congrArg Prod.fst (J.1.1 95 (2, 6) rfl)) rfl (by decide) rfl rfl ⟨by decide, by decide⟩ (sf_X2_emit_r95  hD J  (fun h J S9 => ?_))
    have Sm := jSm_tr rfl Sm S9
    show jX m_X2_readPlain 15 0 0 229 [(4, .int 8), (0, .ref 95), (1, .int 4), (2, .int l2)] [] _ 0 0 _
    exact jX.sub (jsb_c rfl (jsb_c rfl jsb_n)) (ct_X2_readPlain_r95_c4_229 hD hQ  l2 u6 u5 h (jr_of rfl (by omega)) (jr_of rfl (by omega)) (jr_of rfl (by omega)) (by omega) (jmc S9 rfl qu6) (jmc S9 rfl qu5) J Sm)
  ·
    refine x_iconst (v := 0) rfl ki_0 ?_
    refine x_zret rfl rfl (by decide) ?_
    exact hQ _ _ (jr_of jk_0 (by omega)) J Sm _ _ qu5 qu6 (by omega)
set_option maxRecDepth 100000 in
set_option maxHeartbeats 4000000 in
theorem ct_X2_readPlain_r95_c4_900190 {Dy : jH → Prop} {h0 : jH} {Q : Option Value → jH → Prop} (hD : jDk Dy) (hQ : ∀ (v : Int32) hx9, 0 ≤ v.toInt ∧ v.toInt ≤ 1 → jJ jSgX Dy hx9 → jSm fp_X2_readPlain_r95_c4 h0 hx9 → ∀ u0 u1 : Int32, jiv hx9 68 5 = u0 → jiv hx9 68 3 = u1 → (u0.toInt ≠ 3 ∨ u1.toInt ≤ 399) → Q (some (.int v)) hx9) : ∀ (l2 : Int32) (g0 : Int32) (g1 : Int32) (h : jH), 0 ≤ l2.toInt ∧ l2.toInt ≤ 1 → 0 ≤ g0.toInt ∧ g0.toInt ≤ 400 → 0 ≤ g1.toInt ∧ g1.toInt ≤ 3 → (g1.toInt ≠ 3 ∨ g0.toInt ≤ 399) → jiv h 68 3 = g0 → jiv h 68 5 = g1 → jJ jSgX Dy h → jSm fp_X2_readPlain_r95_c4 h0 h → jX m_X2_readPlain 15 0 0 190 [(0, .ref 95), (1, .int 4), (2, .int l2)] [.int 7] h 0 0 Q := by
  intro l2 g0 g1 h y0 y1 y2 y3 z0 z1  J Sm
  refine x_istore (lsx9 := [(4, .int 7), (0, .ref 95), (1, .int 4), (2, .int l2)]) rfl rfl rfl ?_
  refine x_iload (x := 7) rfl rfl ?_
  refine x_iconst (v := (-1)) rfl ki_m1 ?_
  refine x_icne (tgt := 206) rfl rfl (ti_ne jk_7 jk_m1 (bn_t (by omega) ?_))
  refine x_aloadn (x := 95) rfl rfl ?_
  refine z_getR (N := 6) (b := 68) 2 0 rfl f_2_30 rfl J rfl 12160 ⟨rfl, rfl⟩ rfl ?_
  refine x_inv (N := m_X9_step) (As := []) (b := 68) (st := []) (dx9 := 2) (mc := 0) (ms := 0) (host := "") 9 rfl t_X9_step ⟨Or.inl q_2_62, i_X9_step.1, i_X9_step.2⟩ ⟨by decide, rfl⟩ (congrArg Prod.fst (J.1.1 68 (9, 6) rfl)) rfl (by decide) rfl rfl ⟨by decide, by decide⟩ (sf_X9_step_r68  hD J z1 z0 (by omega)  (fun h J S1 u2 u3 qu2 qu3 ru2 => ?_))
  have Sm := jSm_tr rfl Sm S1
  have eu2 := (show 0 ≤ u2.toInt ∧ u2.toInt ≤ 3 from qu2 ▸ jrg_f J sg_68_5_6_1_0_1)
  have eu3 := (show 0 ≤ u3.toInt ∧ u3.toInt ≤ 400 from qu3 ▸ jrg_f J sg_68_3_4_1_0_1)
  show jX m_X2_readPlain 15 0 0 213 [(4, .int 7), (0, .ref 95), (1, .int 4), (2, .int l2)] [] _ 0 0 _
  refine x_aloadn (x := 95) rfl rfl ?_
  refine x_iloadn (x := 4) rfl rfl ?_
  refine x_inv (N := m_X2_readSum) (As := [.int 4]) (b := 95) (st := []) (dx9 := 14) (mc := 0) (ms := 0) (host := "") 2 rfl t_X2_readSum ⟨Or.inl q_2_86, i_X2_readSum.1, i_X2_readSum.2⟩ ⟨by decide, rfl⟩ (congrArg Prod.fst (J.1.1 95 (2, 6) rfl)) rfl (by decide) rfl rfl ⟨by decide, by decide⟩ (sf_X2_readSum_r95_c4  hD J qu2 qu3 (by omega)  (fun v7 h ev7 J S4 u5 u6 qu5 qu6 ru5 => ?_))
  have Sm := jSm_tr rfl Sm S4
  have eu5 := (show 0 ≤ u5.toInt ∧ u5.toInt ≤ 3 from qu5 ▸ jrg_f J sg_68_5_6_1_0_1)
  have eu6 := (show 0 ≤ u6.toInt ∧ u6.toInt ≤ 400 from qu6 ▸ jrg_f J sg_68_3_4_1_0_1)
  show jX m_X2_readPlain 15 0 0 218 [(4, .int 7), (0, .ref 95), (1, .int 4), (2, .int l2)] [.int v7] _ 0 0 _
  refine x_ifne (tgt := 223) rfl rfl (ti_ne rfl jk_0 ⟨fun c8 => ?_, fun c8 => ?_⟩)
  ·
    refine x_aloadn (x := 95) rfl rfl ?_
    refine x_iload (x := 7) rfl rfl ?_
    refine x_inv (N := m_X2_emit) (As := [.int 7]) (b := 95) (st := []) (dx9 := 1) (mc := 0) (ms := 0) (host := "") 2 rfl t_X2_emit ⟨Or.inl q_2_89, i_X2_emit.1, i_X2_emit.2⟩ ⟨by decide, rfl⟩ (congrArg Prod.fst (J.1.1 95 (2, 6) rfl)) rfl (by decide) rfl rfl ⟨by decide, by decide⟩ (sf_X2_emit_r95  hD J  (fun h J S9 => ?_))
    have Sm := jSm_tr rfl Sm S9
    show jX m_X2_readPlain 15 0 0 229 [(4, .int 7), (0, .ref 95), (1, .int 4), (2, .int l2)] [] _ 0 0 _
    exact jX.sub (jsb_c rfl (jsb_c rfl jsb_n)) (ct_X2_readPlain_r95_c4_229 hD hQ  l2 u6 u5 h (jr_of rfl (by omega)) (jr_of rfl (by omega)) (jr_of rfl (by omega)) (by omega) (jmc S9 rfl qu6) (jmc S9 rfl qu5) J Sm)
  ·
    refine x_iconst (v := 0) rfl ki_0 ?_
    refine x_zret rfl rfl (by decide) ?_
    exact hQ _ _ (jr_of jk_0 (by omega)) J Sm _ _ qu5 qu6 (by omega)
set_option maxRecDepth 100000 in
set_option maxHeartbeats 4000000 in
theorem ct_X2_readPlain_r95_c4_108 {Dy : jH → Prop} {h0 : jH} {Q : Option Value → jH → Prop} (hD : jDk Dy) (hQ : ∀ (v : Int32) hx9, 0 ≤ v.toInt ∧ v.toInt ≤ 1 → jJ jSgX Dy hx9 → jSm fp_X2_readPlain_r95_c4 h0 hx9 → ∀ u0 u1 : Int32, jiv hx9 68 5 = u0 → jiv hx9 68 3 = u1 → (u0.toInt ≠ 3 ∨ u1.toInt ≤ 399) → Q (some (.int v)) hx9) : ∀ (g0 : Int32) (g1 : Int32) (h : jH), 0 ≤ g0.toInt ∧ g0.toInt ≤ 400 → 0 ≤ g1.toInt ∧ g1.toInt ≤ 3 → (g1.toInt ≠ 3 ∨ g0.toInt ≤ 399) → jiv h 68 3 = g0 → jiv h 68 5 = g1 → jJ jSgX Dy h → jSm fp_X2_readPlain_r95_c4 h0 h → jX m_X2_readPlain 15 0 0 108 [] [] h 0 0 Q := by
  intro g0 g1 h y0 y1 y2 z0 z1  J Sm
  refine x_iconst (v := 0) rfl ki_0 ?_
  refine x_zret rfl rfl (by decide) ?_
  exact hQ _ _ (jr_of jk_0 (by omega)) J Sm _ _ z1 z0 (by omega)
set_option maxRecDepth 100000 in
set_option maxHeartbeats 4000000 in
theorem ct_X2_readPlain_r95_c4_46 {Dy : jH → Prop} {h0 : jH} {Q : Option Value → jH → Prop} (hD : jDk Dy) (hQ : ∀ (v : Int32) hx9, 0 ≤ v.toInt ∧ v.toInt ≤ 1 → jJ jSgX Dy hx9 → jSm fp_X2_readPlain_r95_c4 h0 hx9 → ∀ u0 u1 : Int32, jiv hx9 68 5 = u0 → jiv hx9 68 3 = u1 → (u0.toInt ≠ 3 ∨ u1.toInt ≤ 399) → Q (some (.int v)) hx9) : ∀ (l2 : Int32) (g0 : Int32) (g1 : Int32) (h : jH), 0 ≤ l2.toInt ∧ l2.toInt ≤ 1 → 0 ≤ g0.toInt ∧ g0.toInt ≤ 400 → 0 ≤ g1.toInt ∧ g1.toInt ≤ 3 → (g1.toInt ≠ 3 ∨ g0.toInt ≤ 399) → jiv h 68 3 = g0 → jiv h 68 5 = g1 → jJ jSgX Dy h → jSm fp_X2_readPlain_r95_c4 h0 h → jX m_X2_readPlain 15 0 0 46 [(0, .ref 95), (1, .int 4), (2, .int l2)] [] h 0 0 Q := by
  intro l2 g0 g1 h y0 y1 y2 y3 z0 z1  J Sm
  refine x_aloadn (x := 95) rfl rfl ?_
  refine z_getR (N := 6) (b := 68) 2 0 rfl f_2_30 rfl J rfl 12160 ⟨rfl, rfl⟩ rfl ?_
  refine x_ldcS (jstr.getD 10 jstr_0) rfl (List.mem_of_getElem? (i := 10) rfl) rfl rfl ?_
  show jX m_X2_readPlain 15 0 0 52 [(0, .ref 95), (1, .int 4), (2, .int l2)] [.ref 15, .ref 68] _ 0 0 _
  refine x_inv (N := m_X9_wordOf) (As := [.ref 15]) (b := 68) (st := []) (dx9 := 4) (mc := 0) (ms := 0) (host := "") 9 rfl t_X9_wordOf ⟨Or.inl q_2_67, i_X9_wordOf.1, i_X9_wordOf.2⟩ ⟨by decide, rfl⟩ (congrArg Prod.fst (J.1.1 68 (9, 6) rfl)) rfl (by decide) rfl rfl ⟨by decide, by decide⟩ (sf_X9_wordOf_r68_r15  hD J  (fun v2 h J S1 => ?_))
  have ev2 := jfull v2
  have Sm := jSm_tr rfl Sm S1
  show jX m_X2_readPlain 15 0 0 55 [(0, .ref 95), (1, .int 4), (2, .int l2)] [.int v2] _ 0 0 _
  refine x_istoren (lsx9 := [(3, .int v2), (0, .ref 95), (1, .int 4), (2, .int l2)]) rfl rfl rfl ?_
  refine x_aloadn (x := 95) rfl rfl ?_
  refine z_getR (N := 6) (b := 68) 2 0 rfl f_2_30 rfl J rfl 12160 ⟨rfl, rfl⟩ rfl ?_
  refine x_bipush (v := 40) rfl kb_40 ?_
  refine x_inv (N := m_X9_isSign) (As := [.int 40]) (b := 68) (st := []) (dx9 := 1) (mc := 0) (ms := 0) (host := "") 9 rfl t_X9_isSign ⟨Or.inl q_2_55, i_X9_isSign.1, i_X9_isSign.2⟩ ⟨by decide, rfl⟩ (congrArg Prod.fst (J.1.1 68 (9, 6) rfl)) rfl (by decide) rfl rfl ⟨by decide, by decide⟩ (sf_X9_isSign_r68 (jr_of jk_40 (by omega)) hD J (jmc S1 rfl z1) (jmc S1 rfl z0) (by omega)  (fun v6 h ev6 J S3 u4 u5 qu4 qu5 ru4 => ?_))
  have Sm := jSm_tr rfl Sm S3
  have eu4 := (show 0 ≤ u4.toInt ∧ u4.toInt ≤ 3 from qu4 ▸ jrg_f J sg_68_5_6_1_0_1)
  have eu5 := (show 0 ≤ u5.toInt ∧ u5.toInt ≤ 400 from qu5 ▸ jrg_f J sg_68_3_4_1_0_1)
  show jX m_X2_readPlain 15 0 0 65 [(3, .int v2), (0, .ref 95), (1, .int 4), (2, .int l2)] [.int v6] _ 0 0 _
  refine x_ifeq (tgt := 110) rfl rfl (ti_eq rfl jk_0 ⟨fun c7 => ?_, fun c7 => ?_⟩)
  ·
    refine x_iloadn (x := v2) rfl rfl ?_
    refine x_iconst (v := (-1)) rfl ki_m1 ?_
    refine x_iceq (tgt := 128) rfl rfl (ti_eq rfl jk_m1 ⟨fun c8 => ?_, fun c8 => ?_⟩)
    ·
      refine x_aloadn (x := 95) rfl rfl ?_
      refine x_iloadn (x := 4) rfl rfl ?_
      refine x_inv (N := m_X2_readSum) (As := [.int 4]) (b := 95) (st := []) (dx9 := 14) (mc := 0) (ms := 0) (host := "") 2 rfl t_X2_readSum ⟨Or.inl q_2_86, i_X2_readSum.1, i_X2_readSum.2⟩ ⟨by decide, rfl⟩ (congrArg Prod.fst (J.1.1 95 (2, 6) rfl)) rfl (by decide) rfl rfl ⟨by decide, by decide⟩ (sf_X2_readSum_r95_c4  hD J qu4 qu5 (by omega)  (fun v12 h ev12 J S9 u10 u11 qu10 qu11 ru10 => ?_))
      have Sm := jSm_tr rfl Sm S9
      have eu10 := (show 0 ≤ u10.toInt ∧ u10.toInt ≤ 3 from qu10 ▸ jrg_f J sg_68_5_6_1_0_1)
      have eu11 := (show 0 ≤ u11.toInt ∧ u11.toInt ≤ 400 from qu11 ▸ jrg_f J sg_68_3_4_1_0_1)
      show jX m_X2_readPlain 15 0 0 133 [(3, .int v2), (0, .ref 95), (1, .int 4), (2, .int l2)] [.int v12] _ 0 0 _
      refine x_ifne (tgt := 138) rfl rfl (ti_ne rfl jk_0 ⟨fun c13 => ?_, fun c13 => ?_⟩)
      ·
        refine x_aloadn (x := 95) rfl rfl ?_
        refine z_getR (N := 6) (b := 68) 2 0 rfl f_2_30 rfl J rfl 12160 ⟨rfl, rfl⟩ rfl ?_
        refine x_bipush (v := 60) rfl kb_60 ?_
        refine x_inv (N := m_X9_isSign) (As := [.int 60]) (b := 68) (st := []) (dx9 := 1) (mc := 0) (ms := 0) (host := "") 9 rfl t_X9_isSign ⟨Or.inl q_2_55, i_X9_isSign.1, i_X9_isSign.2⟩ ⟨by decide, rfl⟩ (congrArg Prod.fst (J.1.1 68 (9, 6) rfl)) rfl (by decide) rfl rfl ⟨by decide, by decide⟩ (sf_X9_isSign_r68 (jr_of jk_60 (by omega)) hD J qu10 qu11 (by omega)  (fun v17 h ev17 J S14 u15 u16 qu15 qu16 ru15 => ?_))
        have Sm := jSm_tr rfl Sm S14
        have eu15 := (show 0 ≤ u15.toInt ∧ u15.toInt ≤ 3 from qu15 ▸ jrg_f J sg_68_5_6_1_0_1)
        have eu16 := (show 0 ≤ u16.toInt ∧ u16.toInt ≤ 400 from qu16 ▸ jrg_f J sg_68_3_4_1_0_1)
        show jX m_X2_readPlain 15 0 0 147 [(3, .int v2), (0, .ref 95), (1, .int 4), (2, .int l2)] [.int v17] _ 0 0 _
        refine x_ifeq (tgt := 155) rfl rfl (ti_eq rfl jk_0 ⟨fun c18 => ?_, fun c18 => ?_⟩)
        ·
          refine x_aloadn (x := 95) rfl rfl ?_
          refine z_getR (N := 6) (b := 68) 2 0 rfl f_2_30 rfl J rfl 12160 ⟨rfl, rfl⟩ rfl ?_
          refine x_bipush (v := 62) rfl kb_62 ?_
          refine x_inv (N := m_X9_isSign) (As := [.int 62]) (b := 68) (st := []) (dx9 := 1) (mc := 0) (ms := 0) (host := "") 9 rfl t_X9_isSign ⟨Or.inl q_2_55, i_X9_isSign.1, i_X9_isSign.2⟩ ⟨by decide, rfl⟩ (congrArg Prod.fst (J.1.1 68 (9, 6) rfl)) rfl (by decide) rfl rfl ⟨by decide, by decide⟩ (sf_X9_isSign_r68 (jr_of jk_62 (by omega)) hD J qu15 qu16 (by omega)  (fun v22 h ev22 J S19 u20 u21 qu20 qu21 ru20 => ?_))
          have Sm := jSm_tr rfl Sm S19
          have eu20 := (show 0 ≤ u20.toInt ∧ u20.toInt ≤ 3 from qu20 ▸ jrg_f J sg_68_5_6_1_0_1)
          have eu21 := (show 0 ≤ u21.toInt ∧ u21.toInt ≤ 400 from qu21 ▸ jrg_f J sg_68_3_4_1_0_1)
          show jX m_X2_readPlain 15 0 0 164 [(3, .int v2), (0, .ref 95), (1, .int 4), (2, .int l2)] [.int v22] _ 0 0 _
          refine x_ifeq (tgt := 172) rfl rfl (ti_eq rfl jk_0 ⟨fun c23 => ?_, fun c23 => ?_⟩)
          ·
            refine x_aloadn (x := 95) rfl rfl ?_
            refine z_getR (N := 6) (b := 68) 2 0 rfl f_2_30 rfl J rfl 12160 ⟨rfl, rfl⟩ rfl ?_
            refine x_bipush (v := 61) rfl kb_61 ?_
            refine x_inv (N := m_X9_isSign) (As := [.int 61]) (b := 68) (st := []) (dx9 := 1) (mc := 0) (ms := 0) (host := "") 9 rfl t_X9_isSign ⟨Or.inl q_2_55, i_X9_isSign.1, i_X9_isSign.2⟩ ⟨by decide, rfl⟩ (congrArg Prod.fst (J.1.1 68 (9, 6) rfl)) rfl (by decide) rfl rfl ⟨by decide, by decide⟩ (sf_X9_isSign_r68 (jr_of jk_61 (by omega)) hD J qu20 qu21 (by omega)  (fun v27 h ev27 J S24 u25 u26 qu25 qu26 ru25 => ?_))
            have Sm := jSm_tr rfl Sm S24
            have eu25 := (show 0 ≤ u25.toInt ∧ u25.toInt ≤ 3 from qu25 ▸ jrg_f J sg_68_5_6_1_0_1)
            have eu26 := (show 0 ≤ u26.toInt ∧ u26.toInt ≤ 400 from qu26 ▸ jrg_f J sg_68_3_4_1_0_1)
            show jX m_X2_readPlain 15 0 0 181 [(3, .int v2), (0, .ref 95), (1, .int 4), (2, .int l2)] [.int v27] _ 0 0 _
            refine x_ifeq (tgt := 189) rfl rfl (ti_eq rfl jk_0 ⟨fun c28 => ?_, fun c28 => ?_⟩)
            ·
              refine x_iconst (v := (-1)) rfl ki_m1 ?_
              exact jX.sub (jsb_c rfl (jsb_c rfl (jsb_c rfl jsb_n))) (ct_X2_readPlain_r95_c4_100190 hD hQ  l2 u26 u25 h (jr_of rfl (by omega)) (jr_of rfl (by omega)) (jr_of rfl (by omega)) (by omega) qu26 qu25 J Sm)
            ·
              refine x_bipush (v := 9) rfl kb_9 ?_
              refine x_goto (tgt := 190) rfl rfl ?_
              exact jX.sub (jsb_c rfl (jsb_c rfl (jsb_c rfl jsb_n))) (ct_X2_readPlain_r95_c4_190 hD hQ  l2 u26 u25 h (jr_of rfl (by omega)) (jr_of rfl (by omega)) (jr_of rfl (by omega)) (by omega) qu26 qu25 J Sm)
          ·
            refine x_bipush (v := 8) rfl kb_8 ?_
            refine x_goto (tgt := 190) rfl rfl ?_
            exact jX.sub (jsb_c rfl (jsb_c rfl (jsb_c rfl jsb_n))) (ct_X2_readPlain_r95_c4_1000190 hD hQ  l2 u21 u20 h (jr_of rfl (by omega)) (jr_of rfl (by omega)) (jr_of rfl (by omega)) (by omega) qu21 qu20 J Sm)
        ·
          refine x_bipush (v := 7) rfl kb_7 ?_
          refine x_goto (tgt := 190) rfl rfl ?_
          exact jX.sub (jsb_c rfl (jsb_c rfl (jsb_c rfl jsb_n))) (ct_X2_readPlain_r95_c4_900190 hD hQ  l2 u16 u15 h (jr_of rfl (by omega)) (jr_of rfl (by omega)) (jr_of rfl (by omega)) (by omega) qu16 qu15 J Sm)
      ·
        refine x_iconst (v := 0) rfl ki_0 ?_
        refine x_zret rfl rfl (by decide) ?_
        exact hQ _ _ (jr_of jk_0 (by omega)) J Sm _ _ qu10 qu11 (by omega)
    ·
      refine x_aloadn (x := 95) rfl rfl ?_
      refine x_iconst (v := 2) rfl ki_2 ?_
      refine x_iconst (v := 5) rfl ki_5 ?_
      refine x_iloadn (x := v2) rfl rfl ?_
      refine z_iadd0 rfl (fun v29 => ?_)
      have ev29 := jfull v29
      refine x_inv (N := m_X2_readPart) (As := [.int 2, .int v29]) (b := 95) (st := []) (dx9 := 3) (mc := 0) (ms := 0) (host := "") 2 rfl t_X2_readPart ⟨Or.inl q_2_141, i_X2_readPart.1, i_X2_readPart.2⟩ ⟨by decide, rfl⟩ (congrArg Prod.fst (J.1.1 95 (2, 6) rfl)) rfl (by decide) rfl rfl ⟨by decide, by decide⟩ (sf_X2_readPart_r95 (jr_of jk_2 (by omega)) hD J qu4 qu5 (by omega)  (fun v33 h ev33 J S30 u31 u32 qu31 qu32 ru31 => ?_))
      have Sm := jSm_tr rfl Sm S30
      have eu31 := (show 0 ≤ u31.toInt ∧ u31.toInt ≤ 3 from qu31 ▸ jrg_f J sg_68_5_6_1_0_1)
      have eu32 := (show 0 ≤ u32.toInt ∧ u32.toInt ≤ 400 from qu32 ▸ jrg_f J sg_68_3_4_1_0_1)
      show jX m_X2_readPlain 15 0 0 123 [(3, .int v2), (0, .ref 95), (1, .int 4), (2, .int l2)] [.int v33] _ 0 0 _
      refine x_ifne (tgt := 229) rfl rfl (ti_ne rfl jk_0 ⟨fun c34 => ?_, fun c34 => ?_⟩)
      ·
        exact jX.sub (jsb_c rfl (jsb_c rfl jsb_n)) (ct_X2_readPlain_r95_c4_229 hD hQ  l2 u32 u31 h (jr_of rfl (by omega)) (jr_of rfl (by omega)) (jr_of rfl (by omega)) (by omega) qu32 qu31 J Sm)
      ·
        refine x_iconst (v := 0) rfl ki_0 ?_
        refine x_zret rfl rfl (by decide) ?_
        exact hQ _ _ (jr_of jk_0 (by omega)) J Sm _ _ qu31 qu32 (by omega)
  ·
    refine x_iloadn (x := 4) rfl rfl ?_
    refine x_bipush (v := 8) rfl kb_8 ?_
    refine x_iclt (tgt := 82) rfl rfl (ti_lt jk_4 jk_8 (br_t (by omega) ?_))
    refine x_aloadn (x := 95) rfl rfl ?_
    refine z_getR (N := 6) (b := 68) 2 0 rfl f_2_30 rfl J rfl 12160 ⟨rfl, rfl⟩ rfl ?_
    refine x_inv (N := m_X9_step) (As := []) (b := 68) (st := []) (dx9 := 2) (mc := 0) (ms := 0) (host := "") 9 rfl t_X9_step ⟨Or.inl q_2_62, i_X9_step.1, i_X9_step.2⟩ ⟨by decide, rfl⟩ (congrArg Prod.fst (J.1.1 68 (9, 6) rfl)) rfl (by decide) rfl rfl ⟨by decide, by decide⟩ (sf_X9_step_r68  hD J qu4 qu5 (by omega)  (fun h J S35 u36 u37 qu36 qu37 ru36 => ?_))
    have Sm := jSm_tr rfl Sm S35
    have eu36 := (show 0 ≤ u36.toInt ∧ u36.toInt ≤ 3 from qu36 ▸ jrg_f J sg_68_5_6_1_0_1)
    have eu37 := (show 0 ≤ u37.toInt ∧ u37.toInt ≤ 400 from qu37 ▸ jrg_f J sg_68_3_4_1_0_1)
    show jX m_X2_readPlain 15 0 0 89 [(3, .int v2), (0, .ref 95), (1, .int 4), (2, .int l2)] [] _ 0 0 _
    refine x_aloadn (x := 95) rfl rfl ?_
    refine x_iloadn (x := 4) rfl rfl ?_
    refine x_iconst (v := 1) rfl ki_1 ?_
    refine y_iadd (v := 5) rfl (by decide) ?_
    refine x_inv (N := m_X2_readTest) (As := [.int 5]) (b := 95) (st := []) (dx9 := 14) (mc := 0) (ms := 0) (host := "") 2 rfl t_X2_readTest ⟨Or.inl q_2_96, i_X2_readTest.1, i_X2_readTest.2⟩ ⟨by decide, rfl⟩ (congrArg Prod.fst (J.1.1 95 (2, 6) rfl)) rfl (by decide) rfl rfl ⟨by decide, by decide⟩ (sf_X2_readTest_r95_c5  hD J qu36 qu37 (by omega)  (fun v41 h ev41 J S38 u39 u40 qu39 qu40 ru39 => ?_))
    have Sm := jSm_tr rfl Sm S38
    have eu39 := (show 0 ≤ u39.toInt ∧ u39.toInt ≤ 3 from qu39 ▸ jrg_f J sg_68_5_6_1_0_1)
    have eu40 := (show 0 ≤ u40.toInt ∧ u40.toInt ≤ 400 from qu40 ▸ jrg_f J sg_68_3_4_1_0_1)
    show jX m_X2_readPlain 15 0 0 96 [(3, .int v2), (0, .ref 95), (1, .int 4), (2, .int l2)] [.int v41] _ 0 0 _
    refine x_ifeq (tgt := 108) rfl rfl (ti_eq rfl jk_0 ⟨fun c42 => ?_, fun c42 => ?_⟩)
    ·
      exact jX.sub jsb_n (ct_X2_readPlain_r95_c4_108 hD hQ  u40 u39 h (jr_of rfl (by omega)) (jr_of rfl (by omega)) (by omega) qu40 qu39 J Sm)
    ·
      refine x_aloadn (x := 95) rfl rfl ?_
      refine x_bipush (v := 41) rfl kb_41 ?_
      refine x_inv (N := m_X2_readSign) (As := [.int 41]) (b := 95) (st := []) (dx9 := 14) (mc := 0) (ms := 0) (host := "") 2 rfl t_X2_readSign ⟨Or.inl q_2_138, i_X2_readSign.1, i_X2_readSign.2⟩ ⟨by decide, rfl⟩ (congrArg Prod.fst (J.1.1 95 (2, 6) rfl)) rfl (by decide) rfl rfl ⟨by decide, by decide⟩ (jC.of rfl k_X2_readSign rfl ?_)
      show jX m_X2_readSign 14 0 0 0 [(0, .ref 95), (1, .int 41)] [] _ 0 0 _
      refine x_aloadn (x := 95) rfl rfl ?_
      refine z_getR (N := 6) (b := 68) 2 0 rfl f_2_30 rfl J rfl 12160 ⟨rfl, rfl⟩ rfl ?_
      refine x_iloadn (x := 41) rfl rfl ?_
      refine x_inv (N := m_X9_isSign) (As := [.int 41]) (b := 68) (st := []) (dx9 := 1) (mc := 0) (ms := 0) (host := "") 9 rfl t_X9_isSign ⟨Or.inl q_2_55, i_X9_isSign.1, i_X9_isSign.2⟩ ⟨by decide, rfl⟩ (congrArg Prod.fst (J.1.1 68 (9, 6) rfl)) rfl (by decide) rfl rfl ⟨by decide, by decide⟩ (sf_X9_isSign_r68 (jr_of jk_41 (by omega)) hD J qu39 qu40 (by omega)  (fun v46 h ev46 J S43 u44 u45 qu44 qu45 ru44 => ?_))
      have Sm := jSm_tr rfl Sm S43
      have eu44 := (show 0 ≤ u44.toInt ∧ u44.toInt ≤ 3 from qu44 ▸ jrg_f J sg_68_5_6_1_0_1)
      have eu45 := (show 0 ≤ u45.toInt ∧ u45.toInt ≤ 400 from qu45 ▸ jrg_f J sg_68_3_4_1_0_1)
      show jX m_X2_readSign 14 0 0 8 [(0, .ref 95), (1, .int 41)] [.int v46] _ 0 0 _
      refine x_ifne (tgt := 19) rfl rfl (ti_ne rfl jk_0 ⟨fun c47 => ?_, fun c47 => ?_⟩)
      ·
        refine x_aloadn (x := 95) rfl rfl ?_
        refine z_getR (N := 6) (b := 68) 2 0 rfl f_2_30 rfl J rfl 12160 ⟨rfl, rfl⟩ rfl ?_
        refine x_inv (N := m_X9_step) (As := []) (b := 68) (st := []) (dx9 := 2) (mc := 0) (ms := 0) (host := "") 9 rfl t_X9_step ⟨Or.inl q_2_62, i_X9_step.1, i_X9_step.2⟩ ⟨by decide, rfl⟩ (congrArg Prod.fst (J.1.1 68 (9, 6) rfl)) rfl (by decide) rfl rfl ⟨by decide, by decide⟩ (sf_X9_step_r68  hD J qu44 qu45 (by omega)  (fun h J S48 u49 u50 qu49 qu50 ru49 => ?_))
        have Sm := jSm_tr rfl Sm S48
        have eu49 := (show 0 ≤ u49.toInt ∧ u49.toInt ≤ 3 from qu49 ▸ jrg_f J sg_68_5_6_1_0_1)
        have eu50 := (show 0 ≤ u50.toInt ∧ u50.toInt ≤ 400 from qu50 ▸ jrg_f J sg_68_3_4_1_0_1)
        show jX m_X2_readSign 14 0 0 26 [(0, .ref 95), (1, .int 41)] [] _ 0 0 _
        refine x_iconst (v := 1) rfl ki_1 ?_
        refine x_zret rfl rfl (by decide) ?_
        show jX m_X2_readPlain 15 0 0 105 [(3, .int v2), (0, .ref 95), (1, .int 4), (2, .int l2)] [.int 1] _ 0 0 _
        refine x_ifne (tgt := 229) rfl rfl (ti_ne jk_1 jk_0 (bn_t (by omega) ?_))
        exact jX.sub (jsb_c rfl (jsb_c rfl jsb_n)) (ct_X2_readPlain_r95_c4_229 hD hQ  l2 u50 u49 h (jr_of rfl (by omega)) (jr_of rfl (by omega)) (jr_of rfl (by omega)) (by omega) qu50 qu49 J Sm)
      ·
        refine x_aloadn (x := 95) rfl rfl ?_
        refine z_getR (N := 6) (b := 68) 2 0 rfl f_2_30 rfl J rfl 12160 ⟨rfl, rfl⟩ rfl ?_
        refine x_inv (N := m_X9_blame) (As := []) (b := 68) (st := []) (dx9 := 13) (mc := 0) (ms := 0) (host := "") 9 rfl t_X9_blame ⟨Or.inl q_2_59, i_X9_blame.1, i_X9_blame.2⟩ ⟨by decide, rfl⟩ (congrArg Prod.fst (J.1.1 68 (9, 6) rfl)) rfl (by decide) rfl rfl ⟨by decide, by decide⟩ (jC.of rfl k_X9_blame rfl ?_)
        show jX m_X9_blame 13 0 0 0 [(0, .ref 68)] [] _ 0 0 _
        refine x_aloadn (x := 68) rfl rfl ?_
        refine x_aloadn (x := 68) rfl rfl ?_
        refine z_getM (N := 6) (v := u45) 9 3 rfl f_9_22 rfl J rfl qu45 ?_
        refine z_putI (N := 6) (w := u45.toInt) 9 2 rfl f_9_19 rfl (jfin_no TX9 RX9 6 rfl rfl) hD J Sm rfl rfl rfl (pw_68_2 (by omega)) rfl (fun h w51 J Sm => ?_)
        refine x_iconst (v := 0) rfl ki_0 ?_
        refine x_zret rfl rfl (by decide) ?_
        show jX m_X2_readSign 14 0 0 18 [(0, .ref 95), (1, .int 41)] [.int 0] _ 0 0 _
        refine x_zret rfl rfl (by decide) ?_
        show jX m_X2_readPlain 15 0 0 105 [(3, .int v2), (0, .ref 95), (1, .int 4), (2, .int l2)] [.int 0] _ 0 0 _
        refine x_ifne (tgt := 229) rfl rfl (ti_ne jk_0 jk_0 (bn_f (by omega) ?_))
        exact jX.sub jsb_n (ct_X2_readPlain_r95_c4_108 hD hQ  u45 u44 h (jr_of rfl (by omega)) (jr_of rfl (by omega)) (by omega) (jmo w51 rfl qu45) (jmo w51 rfl qu44) J Sm)
set_option maxRecDepth 100000 in
set_option maxHeartbeats 4000000 in
theorem ct_X2_readPlain_r95_c4_300032 {Dy : jH → Prop} {h0 : jH} {Q : Option Value → jH → Prop} {R4 : Int} (hD : jDk Dy) (hQ : ∀ (v : Int32) hx9, 0 ≤ v.toInt ∧ v.toInt ≤ 1 → jJ jSgX Dy hx9 → jSm fp_X2_readPlain_r95_c4 h0 hx9 → ∀ u0 u1 : Int32, jiv hx9 68 5 = u0 → jiv hx9 68 3 = u1 → (u0.toInt ≠ 3 ∨ u1.toInt ≤ 399) → Q (some (.int v)) hx9) (k4 : ∀ (l2 : Int32) (l3 : Int32) (g0 : Int32) (g1 : Int32) (h : jH), 400 - l3.toInt < R4 → 0 ≤ l2.toInt ∧ l2.toInt ≤ 1 → 0 ≤ l3.toInt ∧ l3.toInt ≤ 400 → 0 ≤ g0.toInt ∧ g0.toInt ≤ 400 → 0 ≤ g1.toInt ∧ g1.toInt ≤ 3 → (g1.toInt ≠ 3 ∨ g0.toInt ≤ 399) → jiv h 68 3 = g0 → jiv h 68 5 = g1 → jJ jSgX Dy h → jSm fp_X2_readPlain_r95_c4 h0 h → jX m_X2_readPlain 15 0 0 4 [(0, .ref 95), (1, .int 4), (2, .int l2), (3, .int l3)] [] h 0 0 Q) : ∀ (l3 : Int32) (g0 : Int32) (g1 : Int32) (h : jH), 0 ≤ l3.toInt ∧ l3.toInt ≤ 399 → 0 ≤ g0.toInt ∧ g0.toInt ≤ 400 → 0 ≤ g1.toInt ∧ g1.toInt ≤ 3 → (g1.toInt ≠ 3 ∨ g0.toInt ≤ 399) → jiv h 68 3 = g0 → jiv h 68 5 = g1 → 400 - l3.toInt ≤ R4 → jJ jSgX Dy h → jSm fp_X2_readPlain_r95_c4 h0 h → jX m_X2_readPlain 15 0 0 32 [(0, .ref 95), (1, .int 4), (3, .int l3)] [.int 1] h 0 0 Q := by
  intro l3 g0 g1 h y0 y1 y2 y3 z0 z1 m4 J Sm
  refine x_istoren (lsx9 := [(2, .int 1), (0, .ref 95), (1, .int 4), (3, .int l3)]) rfl rfl rfl ?_
  refine x_aloadn (x := 95) rfl rfl ?_
  refine z_getR (N := 6) (b := 68) 2 0 rfl f_2_30 rfl J rfl 12160 ⟨rfl, rfl⟩ rfl ?_
  refine x_inv (N := m_X9_step) (As := []) (b := 68) (st := []) (dx9 := 2) (mc := 0) (ms := 0) (host := "") 9 rfl t_X9_step ⟨Or.inl q_2_62, i_X9_step.1, i_X9_step.2⟩ ⟨by decide, rfl⟩ (congrArg Prod.fst (J.1.1 68 (9, 6) rfl)) rfl (by decide) rfl rfl ⟨by decide, by decide⟩ (sf_X9_step_r68  hD J z1 z0 (by omega)  (fun h J S1 u2 u3 qu2 qu3 ru2 => ?_))
  have Sm := jSm_tr rfl Sm S1
  have eu2 := (show 0 ≤ u2.toInt ∧ u2.toInt ≤ 3 from qu2 ▸ jrg_f J sg_68_5_6_1_0_1)
  have eu3 := (show 0 ≤ u3.toInt ∧ u3.toInt ≤ 400 from qu3 ▸ jrg_f J sg_68_3_4_1_0_1)
  show jX m_X2_readPlain 15 0 0 40 [(2, .int 1), (0, .ref 95), (1, .int 4), (3, .int l3)] [] _ 0 0 _
  refine z_iinc (x := l3) (lsx9 := fun v4 => [(3, .int v4), (2, .int 1), (0, .ref 95), (1, .int 4)]) rfl rfl rfl jko_1 (by omega) rfl (fun _ => rfl) (fun v4 ev4 => ?_)
  refine x_goto (tgt := 4) rfl rfl ?_
  exact jX.sub (jsb_c rfl (jsb_c rfl (jsb_c rfl (jsb_c rfl jsb_n)))) (k4 1 v4 u3 u2 h (by omega) (jr_of jk_1 (by omega)) (jr_of rfl (by omega)) (jr_of rfl (by omega)) (jr_of rfl (by omega)) (by omega) qu3 qu2 J Sm)
set_option maxRecDepth 100000 in
set_option maxHeartbeats 4000000 in
theorem ct_X2_readPlain_r95_c4_200032 {Dy : jH → Prop} {h0 : jH} {Q : Option Value → jH → Prop} {R4 : Int} (hD : jDk Dy) (hQ : ∀ (v : Int32) hx9, 0 ≤ v.toInt ∧ v.toInt ≤ 1 → jJ jSgX Dy hx9 → jSm fp_X2_readPlain_r95_c4 h0 hx9 → ∀ u0 u1 : Int32, jiv hx9 68 5 = u0 → jiv hx9 68 3 = u1 → (u0.toInt ≠ 3 ∨ u1.toInt ≤ 399) → Q (some (.int v)) hx9) (k4 : ∀ (l2 : Int32) (l3 : Int32) (g0 : Int32) (g1 : Int32) (h : jH), 400 - l3.toInt < R4 → 0 ≤ l2.toInt ∧ l2.toInt ≤ 1 → 0 ≤ l3.toInt ∧ l3.toInt ≤ 400 → 0 ≤ g0.toInt ∧ g0.toInt ≤ 400 → 0 ≤ g1.toInt ∧ g1.toInt ≤ 3 → (g1.toInt ≠ 3 ∨ g0.toInt ≤ 399) → jiv h 68 3 = g0 → jiv h 68 5 = g1 → jJ jSgX Dy h → jSm fp_X2_readPlain_r95_c4 h0 h → jX m_X2_readPlain 15 0 0 4 [(0, .ref 95), (1, .int 4), (2, .int l2), (3, .int l3)] [] h 0 0 Q) : ∀ (l3 : Int32) (g0 : Int32) (g1 : Int32) (h : jH), 0 ≤ l3.toInt ∧ l3.toInt ≤ 399 → 0 ≤ g0.toInt ∧ g0.toInt ≤ 400 → 0 ≤ g1.toInt ∧ g1.toInt ≤ 3 → (g1.toInt ≠ 3 ∨ g0.toInt ≤ 399) → jiv h 68 3 = g0 → jiv h 68 5 = g1 → 400 - l3.toInt ≤ R4 → jJ jSgX Dy h → jSm fp_X2_readPlain_r95_c4 h0 h → jX m_X2_readPlain 15 0 0 32 [(0, .ref 95), (1, .int 4), (3, .int l3)] [.int 0] h 0 0 Q := by
  intro l3 g0 g1 h y0 y1 y2 y3 z0 z1 m4 J Sm
  refine x_istoren (lsx9 := [(2, .int 0), (0, .ref 95), (1, .int 4), (3, .int l3)]) rfl rfl rfl ?_
  refine x_aloadn (x := 95) rfl rfl ?_
  refine z_getR (N := 6) (b := 68) 2 0 rfl f_2_30 rfl J rfl 12160 ⟨rfl, rfl⟩ rfl ?_
  refine x_inv (N := m_X9_step) (As := []) (b := 68) (st := []) (dx9 := 2) (mc := 0) (ms := 0) (host := "") 9 rfl t_X9_step ⟨Or.inl q_2_62, i_X9_step.1, i_X9_step.2⟩ ⟨by decide, rfl⟩ (congrArg Prod.fst (J.1.1 68 (9, 6) rfl)) rfl (by decide) rfl rfl ⟨by decide, by decide⟩ (sf_X9_step_r68  hD J z1 z0 (by omega)  (fun h J S1 u2 u3 qu2 qu3 ru2 => ?_))
  have Sm := jSm_tr rfl Sm S1
  have eu2 := (show 0 ≤ u2.toInt ∧ u2.toInt ≤ 3 from qu2 ▸ jrg_f J sg_68_5_6_1_0_1)
  have eu3 := (show 0 ≤ u3.toInt ∧ u3.toInt ≤ 400 from qu3 ▸ jrg_f J sg_68_3_4_1_0_1)
  show jX m_X2_readPlain 15 0 0 40 [(2, .int 0), (0, .ref 95), (1, .int 4), (3, .int l3)] [] _ 0 0 _
  refine z_iinc (x := l3) (lsx9 := fun v4 => [(3, .int v4), (2, .int 0), (0, .ref 95), (1, .int 4)]) rfl rfl rfl jko_1 (by omega) rfl (fun _ => rfl) (fun v4 ev4 => ?_)
  refine x_goto (tgt := 4) rfl rfl ?_
  exact jX.sub (jsb_c rfl (jsb_c rfl (jsb_c rfl (jsb_c rfl jsb_n)))) (k4 0 v4 u3 u2 h (by omega) (jr_of jk_0 (by omega)) (jr_of rfl (by omega)) (jr_of rfl (by omega)) (jr_of rfl (by omega)) (by omega) qu3 qu2 J Sm)
set_option maxRecDepth 100000 in
set_option maxHeartbeats 4000000 in
theorem ct_X2_readPlain_r95_c4_4 {Dy : jH → Prop} {h0 : jH} {Q : Option Value → jH → Prop} (hD : jDk Dy) (hQ : ∀ (v : Int32) hx9, 0 ≤ v.toInt ∧ v.toInt ≤ 1 → jJ jSgX Dy hx9 → jSm fp_X2_readPlain_r95_c4 h0 hx9 → ∀ u0 u1 : Int32, jiv hx9 68 5 = u0 → jiv hx9 68 3 = u1 → (u0.toInt ≠ 3 ∨ u1.toInt ≤ 399) → Q (some (.int v)) hx9) : ∀ r : Nat, ∀ (l2 : Int32) (l3 : Int32) (g0 : Int32) (g1 : Int32) (h : jH), 400 - l3.toInt < (r : Int) → 0 ≤ l2.toInt ∧ l2.toInt ≤ 1 → 0 ≤ l3.toInt ∧ l3.toInt ≤ 400 → 0 ≤ g0.toInt ∧ g0.toInt ≤ 400 → 0 ≤ g1.toInt ∧ g1.toInt ≤ 3 → (g1.toInt ≠ 3 ∨ g0.toInt ≤ 399) → jiv h 68 3 = g0 → jiv h 68 5 = g1 → jJ jSgX Dy h → jSm fp_X2_readPlain_r95_c4 h0 h → jX m_X2_readPlain 15 0 0 4 [(0, .ref 95), (1, .int 4), (2, .int l2), (3, .int l3)] [] h 0 0 Q := by
  intro r
  induction r with
  | zero =>
    intro l2 l3 g0 g1 h hm y0 y1 y2 y3 y4 z0 z1  J Sm
    exfalso
    omega
  | succ r ih =>
    intro l2 l3 g0 g1 h hm y0 y1 y2 y3 y4 z0 z1  J Sm
    refine x_iloadn (x := l3) rfl rfl ?_
    refine x_sipush (v := 400) rfl ks_400 ?_
    refine x_icge (tgt := 46) rfl rfl (ti_ge rfl jk_400 ⟨fun c1 => ?_, fun c1 => ?_⟩)
    ·
      exact jX.sub (jsb_c rfl (jsb_c rfl (jsb_c rfl jsb_n))) (ct_X2_readPlain_r95_c4_46 hD hQ  l2 g0 g1 h (jr_of rfl (by omega)) (jr_of rfl (by omega)) (jr_of rfl (by omega)) (by omega) z0 z1 J Sm)
    ·
      refine x_aloadn (x := 95) rfl rfl ?_
      refine z_getR (N := 6) (b := 68) 2 0 rfl f_2_30 rfl J rfl 12160 ⟨rfl, rfl⟩ rfl ?_
      refine x_ldcS (jstr.getD 9 jstr_0) rfl (List.mem_of_getElem? (i := 9) rfl) rfl rfl ?_
      show jX m_X2_readPlain 15 0 0 17 [(0, .ref 95), (1, .int 4), (2, .int l2), (3, .int l3)] [.ref 14, .ref 68] _ 0 0 _
      refine x_inv (N := m_X9_wordOf) (As := [.ref 14]) (b := 68) (st := []) (dx9 := 4) (mc := 0) (ms := 0) (host := "") 9 rfl t_X9_wordOf ⟨Or.inl q_2_67, i_X9_wordOf.1, i_X9_wordOf.2⟩ ⟨by decide, rfl⟩ (congrArg Prod.fst (J.1.1 68 (9, 6) rfl)) rfl (by decide) rfl rfl ⟨by decide, by decide⟩ (sf_X9_wordOf_r68_r14  hD J  (fun v3 h J S2 => ?_))
      have ev3 := jfull v3
      have Sm := jSm_tr rfl Sm S2
      show jX m_X2_readPlain 15 0 0 20 [(0, .ref 95), (1, .int 4), (2, .int l2), (3, .int l3)] [.int v3] _ 0 0 _
      refine x_ifne (tgt := 46) rfl rfl (ti_ne rfl jk_0 ⟨fun c4 => ?_, fun c4 => ?_⟩)
      ·
        exact jX.sub (jsb_c rfl (jsb_c rfl (jsb_c rfl jsb_n))) (ct_X2_readPlain_r95_c4_46 hD hQ  l2 g0 g1 h (jr_of rfl (by omega)) (jr_of rfl (by omega)) (jr_of rfl (by omega)) (by omega) (jmc S2 rfl z0) (jmc S2 rfl z1) J Sm)
      ·
        refine x_iloadn (x := l2) rfl rfl ?_
        refine x_ifne (tgt := 31) rfl rfl (ti_ne rfl jk_0 ⟨fun c5 => ?_, fun c5 => ?_⟩)
        ·
          refine x_iconst (v := 0) rfl ki_0 ?_
          exact jX.sub (jsb_c rfl (jsb_c rfl (jsb_c rfl jsb_n))) (ct_X2_readPlain_r95_c4_200032 hD hQ ih l3 g0 g1 h (jr_of rfl (by omega)) (jr_of rfl (by omega)) (jr_of rfl (by omega)) (by omega) (jmc S2 rfl z0) (jmc S2 rfl z1) (by omega) J Sm)
        ·
          refine x_iconst (v := 1) rfl ki_1 ?_
          refine x_goto (tgt := 32) rfl rfl ?_
          exact jX.sub (jsb_c rfl (jsb_c rfl (jsb_c rfl jsb_n))) (ct_X2_readPlain_r95_c4_300032 hD hQ ih l3 g0 g1 h (jr_of rfl (by omega)) (jr_of rfl (by omega)) (jr_of rfl (by omega)) (by omega) (jmc S2 rfl z0) (jmc S2 rfl z1) (by omega) J Sm)
set_option maxRecDepth 100000 in
set_option maxHeartbeats 4000000 in
theorem sf_X2_readPlain_r95_c4 {Dy : jH → Prop} {h : jH} {Q : Option Value → jH → Prop} (hD : jDk Dy) (J : jJ jSgX Dy h) {p0 p1 : Int32} (zp0 : jiv h 68 5 = p0) (zp1 : jiv h 68 3 = p1) (rl_p0 : (p0.toInt ≠ 3 ∨ p1.toInt ≤ 399)) (hQ : ∀ (v : Int32) hx9, 0 ≤ v.toInt ∧ v.toInt ≤ 1 → jJ jSgX Dy hx9 → jSm fp_X2_readPlain_r95_c4 h hx9 → ∀ u0 u1 : Int32, jiv hx9 68 5 = u0 → jiv hx9 68 3 = u1 → (u0.toInt ≠ 3 ∨ u1.toInt ≤ 399) → Q (some (.int v)) hx9) : jC m_X2_readPlain 15 0 0 [.ref 95, .int 4] h Q := by
  refine jC.of rfl k_X2_readPlain rfl ?_
  have Sm := jSm_rf fp_X2_readPlain_r95_c4 h
  have ep0 := (show 0 ≤ p0.toInt ∧ p0.toInt ≤ 3 from zp0 ▸ jrg_f J sg_68_5_6_1_0_1)
  have ep1 := (show 0 ≤ p1.toInt ∧ p1.toInt ≤ 400 from zp1 ▸ jrg_f J sg_68_3_4_1_0_1)
  show jX m_X2_readPlain 15 0 0 0 [(0, .ref 95), (1, .int 4)] [] _ 0 0 _
  refine x_iconst (v := 0) rfl ki_0 ?_
  refine x_istoren (lsx9 := [(2, .int 0), (0, .ref 95), (1, .int 4)]) rfl rfl rfl ?_
  refine x_iconst (v := 0) rfl ki_0 ?_
  refine x_istoren (lsx9 := [(3, .int 0), (2, .int 0), (0, .ref 95), (1, .int 4)]) rfl rfl rfl ?_
  exact jX.sub (jsb_c rfl (jsb_c rfl (jsb_c rfl (jsb_c rfl jsb_n)))) (ct_X2_readPlain_r95_c4_4 hD hQ  401 0 0 p1 p0 h (by have := jk_0; omega) (jr_of jk_0 (by omega)) (jr_of jk_0 (by omega)) (jr_of rfl (by omega)) (jr_of rfl (by omega)) (by omega) zp1 zp0 J Sm)
def fp_X2_readTest_r95_c4 : jFp := [(68, 2, 3), (68, 3, 4), (68, 4, 5), (68, 5, 6), (95, 4, 5), (95, 5, 6), (97, 0, 1200)]
set_option maxRecDepth 100000 in
set_option maxHeartbeats 4000000 in
theorem ct_X2_readTest_r95_c4_77 {Dy : jH → Prop} {h0 : jH} {Q : Option Value → jH → Prop} {R4 : Int} (hD : jDk Dy) (hQ : ∀ (v : Int32) hx9, 0 ≤ v.toInt ∧ v.toInt ≤ 1 → jJ jSgX Dy hx9 → jSm fp_X2_readTest_r95_c4 h0 hx9 → ∀ u0 u1 : Int32, jiv hx9 68 5 = u0 → jiv hx9 68 3 = u1 → (u0.toInt ≠ 3 ∨ u1.toInt ≤ 399) → Q (some (.int v)) hx9) (k4 : ∀ (l2 : Int32) (l3 : Int32) (g0 : Int32) (g1 : Int32) (h : jH), 400 - l3.toInt < R4 → (-1) ≤ l2.toInt ∧ l2.toInt ≤ 1199 → 0 ≤ l3.toInt ∧ l3.toInt ≤ 400 → 0 ≤ g0.toInt ∧ g0.toInt ≤ 400 → 0 ≤ g1.toInt ∧ g1.toInt ≤ 3 → (g1.toInt ≠ 3 ∨ g0.toInt ≤ 399) → jiv h 68 3 = g0 → jiv h 68 5 = g1 → jJ jSgX Dy h → jSm fp_X2_readTest_r95_c4 h0 h → jX m_X2_readTest 16 0 0 4 [(0, .ref 95), (1, .int 4), (2, .int l2), (3, .int l3)] [] h 0 0 Q) : ∀ (l2 : Int32) (l3 : Int32) (g0 : Int32) (g1 : Int32) (h : jH), (-1) ≤ l2.toInt ∧ l2.toInt ≤ 1199 → 0 ≤ l3.toInt ∧ l3.toInt ≤ 399 → 0 ≤ g0.toInt ∧ g0.toInt ≤ 400 → 0 ≤ g1.toInt ∧ g1.toInt ≤ 3 → (g1.toInt ≠ 3 ∨ g0.toInt ≤ 399) → jiv h 68 3 = g0 → jiv h 68 5 = g1 → 400 - l3.toInt ≤ R4 → jJ jSgX Dy h → jSm fp_X2_readTest_r95_c4 h0 h → jX m_X2_readTest 16 0 0 77 [(0, .ref 95), (1, .int 4), (2, .int l2), (3, .int l3)] [] h 0 0 Q := by
  intro l2 l3 g0 g1 h y0 y1 y2 y3 y4 z0 z1 m4 J Sm
  refine x_aloadn (x := 95) rfl rfl ?_
  refine x_iloadn (x := l2) rfl rfl ?_
  refine x_inv (N := m_X2_land) (As := [.int l2]) (b := 95) (st := []) (dx9 := 1) (mc := 0) (ms := 0) (host := "") 2 rfl t_X2_land ⟨Or.inl q_2_124, i_X2_land.1, i_X2_land.2⟩ ⟨by decide, rfl⟩ (congrArg Prod.fst (J.1.1 95 (2, 6) rfl)) rfl (by decide) rfl rfl ⟨by decide, by decide⟩ (sf_X2_land_r95 (jr_of rfl (by omega)) hD J  (fun h J S1 => ?_))
  have Sm := jSm_tr rfl Sm S1
  show jX m_X2_readTest 16 0 0 82 [(0, .ref 95), (1, .int 4), (2, .int l2), (3, .int l3)] [] _ 0 0 _
  refine x_aloadn (x := 95) rfl rfl ?_
  refine z_getR (N := 6) (b := 68) 2 0 rfl f_2_30 rfl J rfl 12160 ⟨rfl, rfl⟩ rfl ?_
  refine x_ldcS (jstr.getD 12 jstr_0) rfl (List.mem_of_getElem? (i := 12) rfl) rfl rfl ?_
  show jX m_X2_readTest 16 0 0 88 [(0, .ref 95), (1, .int 4), (2, .int l2), (3, .int l3)] [.ref 17, .ref 68] _ 0 0 _
  refine x_inv (N := m_X9_wordOf) (As := [.ref 17]) (b := 68) (st := []) (dx9 := 4) (mc := 0) (ms := 0) (host := "") 9 rfl t_X9_wordOf ⟨Or.inl q_2_67, i_X9_wordOf.1, i_X9_wordOf.2⟩ ⟨by decide, rfl⟩ (congrArg Prod.fst (J.1.1 68 (9, 6) rfl)) rfl (by decide) rfl rfl ⟨by decide, by decide⟩ (sf_X9_wordOf_r68_r17  hD J  (fun v3 h J S2 => ?_))
  have ev3 := jfull v3
  have Sm := jSm_tr rfl Sm S2
  show jX m_X2_readTest 16 0 0 91 [(0, .ref 95), (1, .int 4), (2, .int l2), (3, .int l3)] [.int v3] _ 0 0 _
  refine x_ifeq (tgt := 96) rfl rfl (ti_eq rfl jk_0 ⟨fun c4 => ?_, fun c4 => ?_⟩)
  ·
    refine x_aloadn (x := 95) rfl rfl ?_
    refine x_bipush (v := 11) rfl kb_11 ?_
    refine x_inv (N := m_X2_leap) (As := [.int 11]) (b := 95) (st := []) (dx9 := 2) (mc := 0) (ms := 0) (host := "") 2 rfl t_X2_leap ⟨Or.inl q_2_129, i_X2_leap.1, i_X2_leap.2⟩ ⟨by decide, rfl⟩ (congrArg Prod.fst (J.1.1 95 (2, 6) rfl)) rfl (by decide) rfl rfl ⟨by decide, by decide⟩ (sf_X2_leap_r95 (jr_of jk_11 (by omega)) hD J  (fun v6 h ev6 J S5 => ?_))
    have Sm := jSm_tr rfl Sm S5
    show jX m_X2_readTest 16 0 0 102 [(0, .ref 95), (1, .int 4), (2, .int l2), (3, .int l3)] [.int v6] _ 0 0 _
    refine x_istoren (lsx9 := [(2, .int v6), (0, .ref 95), (1, .int 4), (3, .int l3)]) rfl rfl rfl ?_
    refine x_aloadn (x := 95) rfl rfl ?_
    refine z_getR (N := 6) (b := 68) 2 0 rfl f_2_30 rfl J rfl 12160 ⟨rfl, rfl⟩ rfl ?_
    refine x_inv (N := m_X9_step) (As := []) (b := 68) (st := []) (dx9 := 2) (mc := 0) (ms := 0) (host := "") 9 rfl t_X9_step ⟨Or.inl q_2_62, i_X9_step.1, i_X9_step.2⟩ ⟨by decide, rfl⟩ (congrArg Prod.fst (J.1.1 68 (9, 6) rfl)) rfl (by decide) rfl rfl ⟨by decide, by decide⟩ (sf_X9_step_r68  hD J (jmc S5 rfl (jmc S2 rfl (jmc S1 rfl z1))) (jmc S5 rfl (jmc S2 rfl (jmc S1 rfl z0))) (by omega)  (fun h J S7 u8 u9 qu8 qu9 ru8 => ?_))
    have Sm := jSm_tr rfl Sm S7
    have eu8 := (show 0 ≤ u8.toInt ∧ u8.toInt ≤ 3 from qu8 ▸ jrg_f J sg_68_5_6_1_0_1)
    have eu9 := (show 0 ≤ u9.toInt ∧ u9.toInt ≤ 400 from qu9 ▸ jrg_f J sg_68_3_4_1_0_1)
    show jX m_X2_readTest 16 0 0 110 [(2, .int v6), (0, .ref 95), (1, .int 4), (3, .int l3)] [] _ 0 0 _
    refine z_iinc (x := l3) (lsx9 := fun v10 => [(3, .int v10), (2, .int v6), (0, .ref 95), (1, .int 4)]) rfl rfl rfl jko_1 (by omega) rfl (fun _ => rfl) (fun v10 ev10 => ?_)
    refine x_goto (tgt := 4) rfl rfl ?_
    exact jX.sub (jsb_c rfl (jsb_c rfl (jsb_c rfl (jsb_c rfl jsb_n)))) (k4 v6 v10 u9 u8 h (by omega) (jr_of rfl (by omega)) (jr_of rfl (by omega)) (jr_of rfl (by omega)) (jr_of rfl (by omega)) (by omega) qu9 qu8 J Sm)
  ·
    refine x_iconst (v := 1) rfl ki_1 ?_
    refine x_zret rfl rfl (by decide) ?_
    exact hQ _ _ (jr_of jk_1 (by omega)) J Sm _ _ (jmc S2 rfl (jmc S1 rfl z1)) (jmc S2 rfl (jmc S1 rfl z0)) (by omega)
set_option maxRecDepth 100000 in
set_option maxHeartbeats 4000000 in
theorem ct_X2_readTest_r95_c4_17 {Dy : jH → Prop} {h0 : jH} {Q : Option Value → jH → Prop} {R4 : Int} (hD : jDk Dy) (hQ : ∀ (v : Int32) hx9, 0 ≤ v.toInt ∧ v.toInt ≤ 1 → jJ jSgX Dy hx9 → jSm fp_X2_readTest_r95_c4 h0 hx9 → ∀ u0 u1 : Int32, jiv hx9 68 5 = u0 → jiv hx9 68 3 = u1 → (u0.toInt ≠ 3 ∨ u1.toInt ≤ 399) → Q (some (.int v)) hx9) (k4 : ∀ (l2 : Int32) (l3 : Int32) (g0 : Int32) (g1 : Int32) (h : jH), 400 - l3.toInt < R4 → (-1) ≤ l2.toInt ∧ l2.toInt ≤ 1199 → 0 ≤ l3.toInt ∧ l3.toInt ≤ 400 → 0 ≤ g0.toInt ∧ g0.toInt ≤ 400 → 0 ≤ g1.toInt ∧ g1.toInt ≤ 3 → (g1.toInt ≠ 3 ∨ g0.toInt ≤ 399) → jiv h 68 3 = g0 → jiv h 68 5 = g1 → jJ jSgX Dy h → jSm fp_X2_readTest_r95_c4 h0 h → jX m_X2_readTest 16 0 0 4 [(0, .ref 95), (1, .int 4), (2, .int l2), (3, .int l3)] [] h 0 0 Q) : ∀ r : Nat, ∀ (l2 : Int32) (l3 : Int32) (l4 : Int32) (l5 : Int32) (g0 : Int32) (g1 : Int32) (h : jH), 400 - l5.toInt < (r : Int) → (-1) ≤ l2.toInt ∧ l2.toInt ≤ 1199 → 0 ≤ l3.toInt ∧ l3.toInt ≤ 399 → (-1) ≤ l4.toInt ∧ l4.toInt ≤ 1199 → 0 ≤ l5.toInt ∧ l5.toInt ≤ 400 → 0 ≤ g0.toInt ∧ g0.toInt ≤ 400 → 0 ≤ g1.toInt ∧ g1.toInt ≤ 3 → (g1.toInt ≠ 3 ∨ g0.toInt ≤ 399) → jiv h 68 3 = g0 → jiv h 68 5 = g1 → 400 - l3.toInt ≤ R4 → jJ jSgX Dy h → jSm fp_X2_readTest_r95_c4 h0 h → jX m_X2_readTest 16 0 0 17 [(0, .ref 95), (1, .int 4), (2, .int l2), (3, .int l3), (4, .int l4), (5, .int l5)] [] h 0 0 Q := by
  intro r
  induction r with
  | zero =>
    intro l2 l3 l4 l5 g0 g1 h hm y0 y1 y2 y3 y4 y5 y6 z0 z1 m4 J Sm
    exfalso
    omega
  | succ r ih =>
    intro l2 l3 l4 l5 g0 g1 h hm y0 y1 y2 y3 y4 y5 y6 z0 z1 m4 J Sm
    refine x_iload (x := l5) rfl rfl ?_
    refine x_sipush (v := 400) rfl ks_400 ?_
    refine x_icge (tgt := 77) rfl rfl (ti_ge rfl jk_400 ⟨fun c1 => ?_, fun c1 => ?_⟩)
    ·
      exact jX.sub (jsb_c rfl (jsb_c rfl (jsb_c rfl (jsb_c rfl jsb_n)))) (ct_X2_readTest_r95_c4_77 hD hQ k4 l2 l3 g0 g1 h (jr_of rfl (by omega)) (jr_of rfl (by omega)) (jr_of rfl (by omega)) (jr_of rfl (by omega)) (by omega) z0 z1 (by omega) J Sm)
    ·
      refine x_aloadn (x := 95) rfl rfl ?_
      refine x_iloadn (x := 4) rfl rfl ?_
      refine x_inv (N := m_X2_readPlain) (As := [.int 4]) (b := 95) (st := []) (dx9 := 15) (mc := 0) (ms := 0) (host := "") 2 rfl t_X2_readPlain ⟨Or.inl q_2_121, i_X2_readPlain.1, i_X2_readPlain.2⟩ ⟨by decide, rfl⟩ (congrArg Prod.fst (J.1.1 95 (2, 6) rfl)) rfl (by decide) rfl rfl ⟨by decide, by decide⟩ (sf_X2_readPlain_r95_c4  hD J z1 z0 (by omega)  (fun v5 h ev5 J S2 u3 u4 qu3 qu4 ru3 => ?_))
      have Sm := jSm_tr rfl Sm S2
      have eu3 := (show 0 ≤ u3.toInt ∧ u3.toInt ≤ 3 from qu3 ▸ jrg_f J sg_68_5_6_1_0_1)
      have eu4 := (show 0 ≤ u4.toInt ∧ u4.toInt ≤ 400 from qu4 ▸ jrg_f J sg_68_3_4_1_0_1)
      show jX m_X2_readTest 16 0 0 30 [(0, .ref 95), (1, .int 4), (2, .int l2), (3, .int l3), (4, .int l4), (5, .int l5)] [.int v5] _ 0 0 _
      refine x_ifne (tgt := 35) rfl rfl (ti_ne rfl jk_0 ⟨fun c6 => ?_, fun c6 => ?_⟩)
      ·
        refine x_aloadn (x := 95) rfl rfl ?_
        refine x_iload (x := l4) rfl rfl ?_
        refine x_inv (N := m_X2_land) (As := [.int l4]) (b := 95) (st := []) (dx9 := 1) (mc := 0) (ms := 0) (host := "") 2 rfl t_X2_land ⟨Or.inl q_2_124, i_X2_land.1, i_X2_land.2⟩ ⟨by decide, rfl⟩ (congrArg Prod.fst (J.1.1 95 (2, 6) rfl)) rfl (by decide) rfl rfl ⟨by decide, by decide⟩ (sf_X2_land_r95 (jr_of rfl (by omega)) hD J  (fun h J S7 => ?_))
        have Sm := jSm_tr rfl Sm S7
        show jX m_X2_readTest 16 0 0 41 [(0, .ref 95), (1, .int 4), (2, .int l2), (3, .int l3), (4, .int l4), (5, .int l5)] [] _ 0 0 _
        refine x_aloadn (x := 95) rfl rfl ?_
        refine z_getR (N := 6) (b := 68) 2 0 rfl f_2_30 rfl J rfl 12160 ⟨rfl, rfl⟩ rfl ?_
        refine x_ldcS (jstr.getD 11 jstr_0) rfl (List.mem_of_getElem? (i := 11) rfl) rfl rfl ?_
        show jX m_X2_readTest 16 0 0 47 [(0, .ref 95), (1, .int 4), (2, .int l2), (3, .int l3), (4, .int l4), (5, .int l5)] [.ref 16, .ref 68] _ 0 0 _
        refine x_inv (N := m_X9_wordOf) (As := [.ref 16]) (b := 68) (st := []) (dx9 := 4) (mc := 0) (ms := 0) (host := "") 9 rfl t_X9_wordOf ⟨Or.inl q_2_67, i_X9_wordOf.1, i_X9_wordOf.2⟩ ⟨by decide, rfl⟩ (congrArg Prod.fst (J.1.1 68 (9, 6) rfl)) rfl (by decide) rfl rfl ⟨by decide, by decide⟩ (sf_X9_wordOf_r68_r16  hD J  (fun v9 h J S8 => ?_))
        have ev9 := jfull v9
        have Sm := jSm_tr rfl Sm S8
        show jX m_X2_readTest 16 0 0 50 [(0, .ref 95), (1, .int 4), (2, .int l2), (3, .int l3), (4, .int l4), (5, .int l5)] [.int v9] _ 0 0 _
        refine x_ifeq (tgt := 56) rfl rfl (ti_eq rfl jk_0 ⟨fun c10 => ?_, fun c10 => ?_⟩)
        ·
          refine x_aloadn (x := 95) rfl rfl ?_
          refine x_bipush (v := 12) rfl kb_12 ?_
          refine x_inv (N := m_X2_leap) (As := [.int 12]) (b := 95) (st := []) (dx9 := 2) (mc := 0) (ms := 0) (host := "") 2 rfl t_X2_leap ⟨Or.inl q_2_129, i_X2_leap.1, i_X2_leap.2⟩ ⟨by decide, rfl⟩ (congrArg Prod.fst (J.1.1 95 (2, 6) rfl)) rfl (by decide) rfl rfl ⟨by decide, by decide⟩ (sf_X2_leap_r95 (jr_of jk_12 (by omega)) hD J  (fun v12 h ev12 J S11 => ?_))
          have Sm := jSm_tr rfl Sm S11
          show jX m_X2_readTest 16 0 0 62 [(0, .ref 95), (1, .int 4), (2, .int l2), (3, .int l3), (4, .int l4), (5, .int l5)] [.int v12] _ 0 0 _
          refine x_istore (lsx9 := [(4, .int v12), (0, .ref 95), (1, .int 4), (2, .int l2), (3, .int l3), (5, .int l5)]) rfl rfl rfl ?_
          refine x_aloadn (x := 95) rfl rfl ?_
          refine z_getR (N := 6) (b := 68) 2 0 rfl f_2_30 rfl J rfl 12160 ⟨rfl, rfl⟩ rfl ?_
          refine x_inv (N := m_X9_step) (As := []) (b := 68) (st := []) (dx9 := 2) (mc := 0) (ms := 0) (host := "") 9 rfl t_X9_step ⟨Or.inl q_2_62, i_X9_step.1, i_X9_step.2⟩ ⟨by decide, rfl⟩ (congrArg Prod.fst (J.1.1 68 (9, 6) rfl)) rfl (by decide) rfl rfl ⟨by decide, by decide⟩ (sf_X9_step_r68  hD J (jmc S11 rfl (jmc S8 rfl (jmc S7 rfl qu3))) (jmc S11 rfl (jmc S8 rfl (jmc S7 rfl qu4))) (by omega)  (fun h J S13 u14 u15 qu14 qu15 ru14 => ?_))
          have Sm := jSm_tr rfl Sm S13
          have eu14 := (show 0 ≤ u14.toInt ∧ u14.toInt ≤ 3 from qu14 ▸ jrg_f J sg_68_5_6_1_0_1)
          have eu15 := (show 0 ≤ u15.toInt ∧ u15.toInt ≤ 400 from qu15 ▸ jrg_f J sg_68_3_4_1_0_1)
          show jX m_X2_readTest 16 0 0 71 [(4, .int v12), (0, .ref 95), (1, .int 4), (2, .int l2), (3, .int l3), (5, .int l5)] [] _ 0 0 _
          refine z_iinc (x := l5) (lsx9 := fun v16 => [(5, .int v16), (4, .int v12), (0, .ref 95), (1, .int 4), (2, .int l2), (3, .int l3)]) rfl rfl rfl jko_1 (by omega) rfl (fun _ => rfl) (fun v16 ev16 => ?_)
          refine x_goto (tgt := 17) rfl rfl ?_
          exact jX.sub (jsb_c rfl (jsb_c rfl (jsb_c rfl (jsb_c rfl (jsb_c rfl (jsb_c rfl jsb_n)))))) (ih l2 l3 v12 v16 u15 u14 h (by omega) (jr_of rfl (by omega)) (jr_of rfl (by omega)) (jr_of rfl (by omega)) (jr_of rfl (by omega)) (jr_of rfl (by omega)) (jr_of rfl (by omega)) (by omega) qu15 qu14 (by omega) J Sm)
        ·
          refine x_goto (tgt := 77) rfl rfl ?_
          exact jX.sub (jsb_c rfl (jsb_c rfl (jsb_c rfl (jsb_c rfl jsb_n)))) (ct_X2_readTest_r95_c4_77 hD hQ k4 l2 l3 u4 u3 h (jr_of rfl (by omega)) (jr_of rfl (by omega)) (jr_of rfl (by omega)) (jr_of rfl (by omega)) (by omega) (jmc S8 rfl (jmc S7 rfl qu4)) (jmc S8 rfl (jmc S7 rfl qu3)) (by omega) J Sm)
      ·
        refine x_iconst (v := 0) rfl ki_0 ?_
        refine x_zret rfl rfl (by decide) ?_
        exact hQ _ _ (jr_of jk_0 (by omega)) J Sm _ _ qu3 qu4 (by omega)
set_option maxRecDepth 100000 in
set_option maxHeartbeats 4000000 in
theorem ct_X2_readTest_r95_c4_4 {Dy : jH → Prop} {h0 : jH} {Q : Option Value → jH → Prop} (hD : jDk Dy) (hQ : ∀ (v : Int32) hx9, 0 ≤ v.toInt ∧ v.toInt ≤ 1 → jJ jSgX Dy hx9 → jSm fp_X2_readTest_r95_c4 h0 hx9 → ∀ u0 u1 : Int32, jiv hx9 68 5 = u0 → jiv hx9 68 3 = u1 → (u0.toInt ≠ 3 ∨ u1.toInt ≤ 399) → Q (some (.int v)) hx9) : ∀ r : Nat, ∀ (l2 : Int32) (l3 : Int32) (g0 : Int32) (g1 : Int32) (h : jH), 400 - l3.toInt < (r : Int) → (-1) ≤ l2.toInt ∧ l2.toInt ≤ 1199 → 0 ≤ l3.toInt ∧ l3.toInt ≤ 400 → 0 ≤ g0.toInt ∧ g0.toInt ≤ 400 → 0 ≤ g1.toInt ∧ g1.toInt ≤ 3 → (g1.toInt ≠ 3 ∨ g0.toInt ≤ 399) → jiv h 68 3 = g0 → jiv h 68 5 = g1 → jJ jSgX Dy h → jSm fp_X2_readTest_r95_c4 h0 h → jX m_X2_readTest 16 0 0 4 [(0, .ref 95), (1, .int 4), (2, .int l2), (3, .int l3)] [] h 0 0 Q := by
  intro r
  induction r with
  | zero =>
    intro l2 l3 g0 g1 h hm y0 y1 y2 y3 y4 z0 z1  J Sm
    exfalso
    omega
  | succ r ih =>
    intro l2 l3 g0 g1 h hm y0 y1 y2 y3 y4 z0 z1  J Sm
    refine x_iloadn (x := l3) rfl rfl ?_
    refine x_sipush (v := 400) rfl ks_400 ?_
    refine x_icge (tgt := 116) rfl rfl (ti_ge rfl jk_400 ⟨fun c1 => ?_, fun c1 => ?_⟩)
    ·
      refine x_aloadn (x := 95) rfl rfl ?_
      refine z_getR (N := 6) (b := 68) 2 0 rfl f_2_30 rfl J rfl 12160 ⟨rfl, rfl⟩ rfl ?_
      refine x_inv (N := m_X9_blame) (As := []) (b := 68) (st := []) (dx9 := 15) (mc := 0) (ms := 0) (host := "") 9 rfl t_X9_blame ⟨Or.inl q_2_59, i_X9_blame.1, i_X9_blame.2⟩ ⟨by decide, rfl⟩ (congrArg Prod.fst (J.1.1 68 (9, 6) rfl)) rfl (by decide) rfl rfl ⟨by decide, by decide⟩ (jC.of rfl k_X9_blame rfl ?_)
      show jX m_X9_blame 15 0 0 0 [(0, .ref 68)] [] _ 0 0 _
      refine x_aloadn (x := 68) rfl rfl ?_
      refine x_aloadn (x := 68) rfl rfl ?_
      refine z_getM (N := 6) (v := g0) 9 3 rfl f_9_22 rfl J rfl z0 ?_
      refine z_putI (N := 6) (w := g0.toInt) 9 2 rfl f_9_19 rfl (jfin_no TX9 RX9 6 rfl rfl) hD J Sm rfl rfl rfl (pw_68_2 (by omega)) rfl (fun h w2 J Sm => ?_)
      refine x_iconst (v := 0) rfl ki_0 ?_
      refine x_zret rfl rfl (by decide) ?_
      show jX m_X2_readTest 16 0 0 123 [(0, .ref 95), (1, .int 4), (2, .int l2), (3, .int l3)] [.int 0] _ 0 0 _
      refine x_zret rfl rfl (by decide) ?_
      exact hQ _ _ (jr_of jk_0 (by omega)) J Sm _ _ (jmo w2 rfl z1) (jmo w2 rfl z0) (by omega)
    ·
      refine x_iconst (v := (-1)) rfl ki_m1 ?_
      refine x_istore (lsx9 := [(4, .int (-1)), (0, .ref 95), (1, .int 4), (2, .int l2), (3, .int l3)]) rfl rfl rfl ?_
      refine x_iconst (v := 0) rfl ki_0 ?_
      refine x_istore (lsx9 := [(5, .int 0), (4, .int (-1)), (0, .ref 95), (1, .int 4), (2, .int l2), (3, .int l3)]) rfl rfl rfl ?_
      exact jX.sub (jsb_c rfl (jsb_c rfl (jsb_c rfl (jsb_c rfl (jsb_c rfl (jsb_c rfl jsb_n)))))) (ct_X2_readTest_r95_c4_17 hD hQ ih 401 l2 l3 (-1) 0 g0 g1 h (by have := jk_0; omega) (jr_of rfl (by omega)) (jr_of rfl (by omega)) (jr_of jk_m1 (by omega)) (jr_of jk_0 (by omega)) (jr_of rfl (by omega)) (jr_of rfl (by omega)) (by omega) z0 z1 (by omega) J Sm)
set_option maxRecDepth 100000 in
set_option maxHeartbeats 4000000 in
theorem sf_X2_readTest_r95_c4 {Dy : jH → Prop} {h : jH} {Q : Option Value → jH → Prop} (hD : jDk Dy) (J : jJ jSgX Dy h) {p0 p1 : Int32} (zp0 : jiv h 68 5 = p0) (zp1 : jiv h 68 3 = p1) (rl_p0 : (p0.toInt ≠ 3 ∨ p1.toInt ≤ 399)) (hQ : ∀ (v : Int32) hx9, 0 ≤ v.toInt ∧ v.toInt ≤ 1 → jJ jSgX Dy hx9 → jSm fp_X2_readTest_r95_c4 h hx9 → ∀ u0 u1 : Int32, jiv hx9 68 5 = u0 → jiv hx9 68 3 = u1 → (u0.toInt ≠ 3 ∨ u1.toInt ≤ 399) → Q (some (.int v)) hx9) : jC m_X2_readTest 16 0 0 [.ref 95, .int 4] h Q := by
  refine jC.of rfl k_X2_readTest rfl ?_
  have Sm := jSm_rf fp_X2_readTest_r95_c4 h
  have ep0 := (show 0 ≤ p0.toInt ∧ p0.toInt ≤ 3 from zp0 ▸ jrg_f J sg_68_5_6_1_0_1)
  have ep1 := (show 0 ≤ p1.toInt ∧ p1.toInt ≤ 400 from zp1 ▸ jrg_f J sg_68_3_4_1_0_1)
  show jX m_X2_readTest 16 0 0 0 [(0, .ref 95), (1, .int 4)] [] _ 0 0 _
  refine x_iconst (v := (-1)) rfl ki_m1 ?_
  refine x_istoren (lsx9 := [(2, .int (-1)), (0, .ref 95), (1, .int 4)]) rfl rfl rfl ?_
  refine x_iconst (v := 0) rfl ki_0 ?_
  refine x_istoren (lsx9 := [(3, .int 0), (2, .int (-1)), (0, .ref 95), (1, .int 4)]) rfl rfl rfl ?_
  exact jX.sub (jsb_c rfl (jsb_c rfl (jsb_c rfl (jsb_c rfl jsb_n)))) (ct_X2_readTest_r95_c4_4 hD hQ  401 (-1) 0 p1 p0 h (by have := jk_0; omega) (jr_of jk_m1 (by omega)) (jr_of jk_0 (by omega)) (jr_of rfl (by omega)) (jr_of rfl (by omega)) (by omega) zp1 zp0 J Sm)
def fp_X2_readPlain_r95_c3 : jFp := [(68, 2, 3), (68, 3, 4), (68, 4, 5), (68, 5, 6), (95, 4, 5), (95, 5, 6), (97, 0, 1200)]
set_option maxRecDepth 100000 in
set_option maxHeartbeats 4000000 in
theorem ct_X2_readPlain_r95_c3_239 {Dy : jH → Prop} {h0 : jH} {Q : Option Value → jH → Prop} (hD : jDk Dy) (hQ : ∀ (v : Int32) hx9, 0 ≤ v.toInt ∧ v.toInt ≤ 1 → jJ jSgX Dy hx9 → jSm fp_X2_readPlain_r95_c3 h0 hx9 → ∀ u0 u1 : Int32, jiv hx9 68 5 = u0 → jiv hx9 68 3 = u1 → (u0.toInt ≠ 3 ∨ u1.toInt ≤ 399) → Q (some (.int v)) hx9) : ∀ (g0 : Int32) (g1 : Int32) (h : jH), 0 ≤ g0.toInt ∧ g0.toInt ≤ 400 → 0 ≤ g1.toInt ∧ g1.toInt ≤ 3 → (g1.toInt ≠ 3 ∨ g0.toInt ≤ 399) → jiv h 68 3 = g0 → jiv h 68 5 = g1 → jJ jSgX Dy h → jSm fp_X2_readPlain_r95_c3 h0 h → jX m_X2_readPlain 17 0 0 239 [] [] h 0 0 Q := by
  intro g0 g1 h y0 y1 y2 z0 z1  J Sm
  refine x_iconst (v := 1) rfl ki_1 ?_
  refine x_zret rfl rfl (by decide) ?_
  exact hQ _ _ (jr_of jk_1 (by omega)) J Sm _ _ z1 z0 (by omega)
set_option maxRecDepth 100000 in
set_option maxHeartbeats 4000000 in
theorem ct_X2_readPlain_r95_c3_229 {Dy : jH → Prop} {h0 : jH} {Q : Option Value → jH → Prop} (hD : jDk Dy) (hQ : ∀ (v : Int32) hx9, 0 ≤ v.toInt ∧ v.toInt ≤ 1 → jJ jSgX Dy hx9 → jSm fp_X2_readPlain_r95_c3 h0 hx9 → ∀ u0 u1 : Int32, jiv hx9 68 5 = u0 → jiv hx9 68 3 = u1 → (u0.toInt ≠ 3 ∨ u1.toInt ≤ 399) → Q (some (.int v)) hx9) : ∀ (l2 : Int32) (g0 : Int32) (g1 : Int32) (h : jH), 0 ≤ l2.toInt ∧ l2.toInt ≤ 1 → 0 ≤ g0.toInt ∧ g0.toInt ≤ 400 → 0 ≤ g1.toInt ∧ g1.toInt ≤ 3 → (g1.toInt ≠ 3 ∨ g0.toInt ≤ 399) → jiv h 68 3 = g0 → jiv h 68 5 = g1 → jJ jSgX Dy h → jSm fp_X2_readPlain_r95_c3 h0 h → jX m_X2_readPlain 17 0 0 229 [(0, .ref 95), (2, .int l2)] [] h 0 0 Q := by
  intro l2 g0 g1 h y0 y1 y2 y3 z0 z1  J Sm
  refine x_iloadn (x := l2) rfl rfl ?_
  refine x_ifeq (tgt := 239) rfl rfl (ti_eq rfl jk_0 ⟨fun c1 => ?_, fun c1 => ?_⟩)
  ·
    exact jX.sub jsb_n (ct_X2_readPlain_r95_c3_239 hD hQ  g0 g1 h (jr_of rfl (by omega)) (jr_of rfl (by omega)) (by omega) z0 z1 J Sm)
  ·
    refine x_aloadn (x := 95) rfl rfl ?_
    refine x_bipush (v := 10) rfl kb_10 ?_
    refine x_inv (N := m_X2_emit) (As := [.int 10]) (b := 95) (st := []) (dx9 := 1) (mc := 0) (ms := 0) (host := "") 2 rfl t_X2_emit ⟨Or.inl q_2_89, i_X2_emit.1, i_X2_emit.2⟩ ⟨by decide, rfl⟩ (congrArg Prod.fst (J.1.1 95 (2, 6) rfl)) rfl (by decide) rfl rfl ⟨by decide, by decide⟩ (sf_X2_emit_r95  hD J  (fun h J S2 => ?_))
    have Sm := jSm_tr rfl Sm S2
    show jX m_X2_readPlain 17 0 0 239 [(0, .ref 95), (2, .int l2)] [] _ 0 0 _
    exact jX.sub jsb_n (ct_X2_readPlain_r95_c3_239 hD hQ  g0 g1 h (jr_of rfl (by omega)) (jr_of rfl (by omega)) (by omega) (jmc S2 rfl z0) (jmc S2 rfl z1) J Sm)
set_option maxRecDepth 100000 in
set_option maxHeartbeats 4000000 in
theorem ct_X2_readPlain_r95_c3_100190 {Dy : jH → Prop} {h0 : jH} {Q : Option Value → jH → Prop} (hD : jDk Dy) (hQ : ∀ (v : Int32) hx9, 0 ≤ v.toInt ∧ v.toInt ≤ 1 → jJ jSgX Dy hx9 → jSm fp_X2_readPlain_r95_c3 h0 hx9 → ∀ u0 u1 : Int32, jiv hx9 68 5 = u0 → jiv hx9 68 3 = u1 → (u0.toInt ≠ 3 ∨ u1.toInt ≤ 399) → Q (some (.int v)) hx9) : ∀ (l2 : Int32) (g0 : Int32) (g1 : Int32) (h : jH), 0 ≤ l2.toInt ∧ l2.toInt ≤ 1 → 0 ≤ g0.toInt ∧ g0.toInt ≤ 400 → 0 ≤ g1.toInt ∧ g1.toInt ≤ 3 → (g1.toInt ≠ 3 ∨ g0.toInt ≤ 399) → jiv h 68 3 = g0 → jiv h 68 5 = g1 → jJ jSgX Dy h → jSm fp_X2_readPlain_r95_c3 h0 h → jX m_X2_readPlain 17 0 0 190 [(0, .ref 95), (1, .int 3), (2, .int l2)] [.int (-1)] h 0 0 Q := by
  intro l2 g0 g1 h y0 y1 y2 y3 z0 z1  J Sm
  refine x_istore (lsx9 := [(4, .int (-1)), (0, .ref 95), (1, .int 3), (2, .int l2)]) rfl rfl rfl ?_
  refine x_iload (x := (-1)) rfl rfl ?_
  refine x_iconst (v := (-1)) rfl ki_m1 ?_
  refine x_icne (tgt := 206) rfl rfl (ti_ne jk_m1 jk_m1 (bn_f (by omega) ?_))
  refine x_aloadn (x := 95) rfl rfl ?_
  refine z_getR (N := 6) (b := 68) 2 0 rfl f_2_30 rfl J rfl 12160 ⟨rfl, rfl⟩ rfl ?_
  refine x_inv (N := m_X9_blame) (As := []) (b := 68) (st := []) (dx9 := 16) (mc := 0) (ms := 0) (host := "") 9 rfl t_X9_blame ⟨Or.inl q_2_59, i_X9_blame.1, i_X9_blame.2⟩ ⟨by decide, rfl⟩ (congrArg Prod.fst (J.1.1 68 (9, 6) rfl)) rfl (by decide) rfl rfl ⟨by decide, by decide⟩ (jC.of rfl k_X9_blame rfl ?_)
  show jX m_X9_blame 16 0 0 0 [(0, .ref 68)] [] _ 0 0 _
  refine x_aloadn (x := 68) rfl rfl ?_
  refine x_aloadn (x := 68) rfl rfl ?_
  refine z_getM (N := 6) (v := g0) 9 3 rfl f_9_22 rfl J rfl z0 ?_
  refine z_putI (N := 6) (w := g0.toInt) 9 2 rfl f_9_19 rfl (jfin_no TX9 RX9 6 rfl rfl) hD J Sm rfl rfl rfl (pw_68_2 (by omega)) rfl (fun h w1 J Sm => ?_)
  refine x_iconst (v := 0) rfl ki_0 ?_
  refine x_zret rfl rfl (by decide) ?_
  show jX m_X2_readPlain 17 0 0 205 [(4, .int (-1)), (0, .ref 95), (1, .int 3), (2, .int l2)] [.int 0] _ 0 0 _
  refine x_zret rfl rfl (by decide) ?_
  exact hQ _ _ (jr_of jk_0 (by omega)) J Sm _ _ (jmo w1 rfl z1) (jmo w1 rfl z0) (by omega)
set_option maxRecDepth 100000 in
set_option maxHeartbeats 4000000 in
theorem ct_X2_readPlain_r95_c3_190 {Dy : jH → Prop} {h0 : jH} {Q : Option Value → jH → Prop} (hD : jDk Dy) (hQ : ∀ (v : Int32) hx9, 0 ≤ v.toInt ∧ v.toInt ≤ 1 → jJ jSgX Dy hx9 → jSm fp_X2_readPlain_r95_c3 h0 hx9 → ∀ u0 u1 : Int32, jiv hx9 68 5 = u0 → jiv hx9 68 3 = u1 → (u0.toInt ≠ 3 ∨ u1.toInt ≤ 399) → Q (some (.int v)) hx9) : ∀ (l2 : Int32) (g0 : Int32) (g1 : Int32) (h : jH), 0 ≤ l2.toInt ∧ l2.toInt ≤ 1 → 0 ≤ g0.toInt ∧ g0.toInt ≤ 400 → 0 ≤ g1.toInt ∧ g1.toInt ≤ 3 → (g1.toInt ≠ 3 ∨ g0.toInt ≤ 399) → jiv h 68 3 = g0 → jiv h 68 5 = g1 → jJ jSgX Dy h → jSm fp_X2_readPlain_r95_c3 h0 h → jX m_X2_readPlain 17 0 0 190 [(0, .ref 95), (1, .int 3), (2, .int l2)] [.int 9] h 0 0 Q := by
  intro l2 g0 g1 h y0 y1 y2 y3 z0 z1  J Sm
  refine x_istore (lsx9 := [(4, .int 9), (0, .ref 95), (1, .int 3), (2, .int l2)]) rfl rfl rfl ?_
  refine x_iload (x := 9) rfl rfl ?_
  refine x_iconst (v := (-1)) rfl ki_m1 ?_
  refine x_icne (tgt := 206) rfl rfl (ti_ne jk_9 jk_m1 (bn_t (by omega) ?_))
  refine x_aloadn (x := 95) rfl rfl ?_
  refine z_getR (N := 6) (b := 68) 2 0 rfl f_2_30 rfl J rfl 12160 ⟨rfl, rfl⟩ rfl ?_
  refine x_inv (N := m_X9_step) (As := []) (b := 68) (st := []) (dx9 := 2) (mc := 0) (ms := 0) (host := "") 9 rfl t_X9_step ⟨Or.inl q_2_62, i_X9_step.1, i_X9_step.2⟩ ⟨by decide, rfl⟩ (congrArg Prod.fst (J.1.1 68 (9, 6) rfl)) rfl (by decide) rfl rfl ⟨by decide, by decide⟩ (sf_X9_step_r68  hD J z1 z0 (by omega)  (fun h J S1 u2 u3 qu2 qu3 ru2 => ?_))
  have Sm := jSm_tr rfl Sm S1
  have eu2 := (show 0 ≤ u2.toInt ∧ u2.toInt ≤ 3 from qu2 ▸ jrg_f J sg_68_5_6_1_0_1)
  have eu3 := (show 0 ≤ u3.toInt ∧ u3.toInt ≤ 400 from qu3 ▸ jrg_f J sg_68_3_4_1_0_1)
  show jX m_X2_readPlain 17 0 0 213 [(4, .int 9), (0, .ref 95), (1, .int 3), (2, .int l2)] [] _ 0 0 _
  refine x_aloadn (x := 95) rfl rfl ?_
  refine x_iloadn (x := 3) rfl rfl ?_
  refine x_inv (N := m_X2_readSum) (As := [.int 3]) (b := 95) (st := []) (dx9 := 16) (mc := 0) (ms := 0) (host := "") 2 rfl t_X2_readSum ⟨Or.inl q_2_86, i_X2_readSum.1, i_X2_readSum.2⟩ ⟨by decide, rfl⟩ (congrArg Prod.fst (J.1.1 95 (2, 6) rfl)) rfl (by decide) rfl rfl ⟨by decide, by decide⟩ (sf_X2_readSum_r95_c3  hD J qu2 qu3 (by omega)  (fun v7 h ev7 J S4 u5 u6 qu5 qu6 ru5 => ?_))
  have Sm := jSm_tr rfl Sm S4
  have eu5 := (show 0 ≤ u5.toInt ∧ u5.toInt ≤ 3 from qu5 ▸ jrg_f J sg_68_5_6_1_0_1)
  have eu6 := (show 0 ≤ u6.toInt ∧ u6.toInt ≤ 400 from qu6 ▸ jrg_f J sg_68_3_4_1_0_1)
  show jX m_X2_readPlain 17 0 0 218 [(4, .int 9), (0, .ref 95), (1, .int 3), (2, .int l2)] [.int v7] _ 0 0 _
  refine x_ifne (tgt := 223) rfl rfl (ti_ne rfl jk_0 ⟨fun c8 => ?_, fun c8 => ?_⟩)
  ·
    refine x_aloadn (x := 95) rfl rfl ?_
    refine x_iload (x := 9) rfl rfl ?_
    refine x_inv (N := m_X2_emit) (As := [.int 9]) (b := 95) (st := []) (dx9 := 1) (mc := 0) (ms := 0) (host := "") 2 rfl t_X2_emit ⟨Or.inl q_2_89, i_X2_emit.1, i_X2_emit.2⟩ ⟨by decide, rfl⟩ (congrArg Prod.fst (J.1.1 95 (2, 6) rfl)) rfl (by decide) rfl rfl ⟨by decide, by decide⟩ (sf_X2_emit_r95  hD J  (fun h J S9 => ?_))
    have Sm := jSm_tr rfl Sm S9
    show jX m_X2_readPlain 17 0 0 229 [(4, .int 9), (0, .ref 95), (1, .int 3), (2, .int l2)] [] _ 0 0 _
    exact jX.sub (jsb_c rfl (jsb_c rfl jsb_n)) (ct_X2_readPlain_r95_c3_229 hD hQ  l2 u6 u5 h (jr_of rfl (by omega)) (jr_of rfl (by omega)) (jr_of rfl (by omega)) (by omega) (jmc S9 rfl qu6) (jmc S9 rfl qu5) J Sm)
  ·
    refine x_iconst (v := 0) rfl ki_0 ?_
    refine x_zret rfl rfl (by decide) ?_
    exact hQ _ _ (jr_of jk_0 (by omega)) J Sm _ _ qu5 qu6 (by omega)
set_option maxRecDepth 100000 in
set_option maxHeartbeats 4000000 in
theorem ct_X2_readPlain_r95_c3_1000190 {Dy : jH → Prop} {h0 : jH} {Q : Option Value → jH → Prop} (hD : jDk Dy) (hQ : ∀ (v : Int32) hx9, 0 ≤ v.toInt ∧ v.toInt ≤ 1 → jJ jSgX Dy hx9 → jSm fp_X2_readPlain_r95_c3 h0 hx9 → ∀ u0 u1 : Int32, jiv hx9 68 5 = u0 → jiv hx9 68 3 = u1 → (u0.toInt ≠ 3 ∨ u1.toInt ≤ 399) → Q (some (.int v)) hx9) : ∀ (l2 : Int32) (g0 : Int32) (g1 : Int32) (h : jH), 0 ≤ l2.toInt ∧ l2.toInt ≤ 1 → 0 ≤ g0.toInt ∧ g0.toInt ≤ 400 → 0 ≤ g1.toInt ∧ g1.toInt ≤ 3 → (g1.toInt ≠ 3 ∨ g0.toInt ≤ 399) → jiv h 68 3 = g0 → jiv h 68 5 = g1 → jJ jSgX Dy h → jSm fp_X2_readPlain_r95_c3 h0 h → jX m_X2_readPlain 17 0 0 190 [(0, .ref 95), (1, .int 3), (2, .int l2)] [.int 8] h 0 0 Q := by
  intro l2 g0 g1 h y0 y1 y2 y3 z0 z1  J Sm
  refine x_istore (lsx9 := [(4, .int 8), (0, .ref 95), (1, .int 3), (2, .int l2)]) rfl rfl rfl ?_
  refine x_iload (x := 8) rfl rfl ?_
  refine x_iconst (v := (-1)) rfl ki_m1 ?_
  refine x_icne (tgt := 206) rfl rfl (ti_ne jk_8 jk_m1 (bn_t (by omega) ?_))
  refine x_aloadn (x := 95) rfl rfl ?_
  refine z_getR (N := 6) (b := 68) 2 0 rfl f_2_30 rfl J rfl 12160 ⟨rfl, rfl⟩ rfl ?_
  refine x_inv (N := m_X9_step) (As := []) (b := 68) (st := []) (dx9 := 2) (mc := 0) (ms := 0) (host := "") 9 rfl t_X9_step ⟨Or.inl q_2_62, i_X9_step.1, i_X9_step.2⟩ ⟨by decide, rfl⟩ (congrArg Prod.fst (J.1.1 68 (9, 6) rfl)) rfl (by decide) rfl rfl ⟨by decide, by decide⟩ (sf_X9_step_r68  hD J z1 z0 (by omega)  (fun h J S1 u2 u3 qu2 qu3 ru2 => ?_))
  have Sm := jSm_tr rfl Sm S1
  have eu2 := (show 0 ≤ u2.toInt ∧ u2.toInt ≤ 3 from qu2 ▸ jrg_f J sg_68_5_6_1_0_1)
  have eu3 := (show 0 ≤ u3.toInt ∧ u3.toInt ≤ 400 from qu3 ▸ jrg_f J sg_68_3_4_1_0_1)
  show jX m_X2_readPlain 17 0 0 213 [(4, .int 8), (0, .ref 95), (1, .int 3), (2, .int l2)] [] _ 0 0 _
  refine x_aloadn (x := 95) rfl rfl ?_
  refine x_iloadn (x := 3) rfl rfl ?_
  refine x_inv (N := m_X2_readSum) (As := [.int 3]) (b := 95) (st := []) (dx9 := 16) (mc := 0) (ms := 0) (host := "") 2 rfl t_X2_readSum ⟨Or.inl q_2_86, i_X2_readSum.1, i_X2_readSum.2⟩ ⟨by decide, rfl⟩ (congrArg Prod.fst (J.1.1 95 (2, 6) rfl)) rfl (by decide) rfl rfl ⟨by decide, by decide⟩ (sf_X2_readSum_r95_c3  hD J qu2 qu3 (by omega)  (fun v7 h ev7 J S4 u5 u6 qu5 qu6 ru5 => ?_))
  have Sm := jSm_tr rfl Sm S4
  have eu5 := (show 0 ≤ u5.toInt ∧ u5.toInt ≤ 3 from qu5 ▸ jrg_f J sg_68_5_6_1_0_1)
  have eu6 := (show 0 ≤ u6.toInt ∧ u6.toInt ≤ 400 from qu6 ▸ jrg_f J sg_68_3_4_1_0_1)
  show jX m_X2_readPlain 17 0 0 218 [(4, .int 8), (0, .ref 95), (1, .int 3), (2, .int l2)] [.int v7] _ 0 0 _
  refine x_ifne (tgt := 223) rfl rfl (ti_ne rfl jk_0 ⟨fun c8 => ?_, fun c8 => ?_⟩)
  ·
    refine x_aloadn (x := 95) rfl rfl ?_
    refine x_iload (x := 8) rfl rfl ?_
    refine x_inv (N := m_X2_emit) (As := [.int 8]) (b := 95) (st := []) (dx9 := 1) (mc := 0) (ms := 0) (host := "") 2 rfl t_X2_emit ⟨Or.inl q_2_89, i_X2_emit.1, i_X2_emit.2⟩ ⟨by decide, rfl⟩ (congrArg Prod.fst (J.1.1 95 (2, 6) rfl)) rfl (by decide) rfl rfl ⟨by decide, by decide⟩ (sf_X2_emit_r95  hD J  (fun h J S9 => ?_))
    have Sm := jSm_tr rfl Sm S9
    show jX m_X2_readPlain 17 0 0 229 [(4, .int 8), (0, .ref 95), (1, .int 3), (2, .int l2)] [] _ 0 0 _
    exact jX.sub (jsb_c rfl (jsb_c rfl jsb_n)) (ct_X2_readPlain_r95_c3_229 hD hQ  l2 u6 u5 h (jr_of rfl (by omega)) (jr_of rfl (by omega)) (jr_of rfl (by omega)) (by omega) (jmc S9 rfl qu6) (jmc S9 rfl qu5) J Sm)
  ·
    refine x_iconst (v := 0) rfl ki_0 ?_
    refine x_zret rfl rfl (by decide) ?_
    exact hQ _ _ (jr_of jk_0 (by omega)) J Sm _ _ qu5 qu6 (by omega)
set_option maxRecDepth 100000 in
set_option maxHeartbeats 4000000 in
theorem ct_X2_readPlain_r95_c3_900190 {Dy : jH → Prop} {h0 : jH} {Q : Option Value → jH → Prop} (hD : jDk Dy) (hQ : ∀ (v : Int32) hx9, 0 ≤ v.toInt ∧ v.toInt ≤ 1 → jJ jSgX Dy hx9 → jSm fp_X2_readPlain_r95_c3 h0 hx9 → ∀ u0 u1 : Int32, jiv hx9 68 5 = u0 → jiv hx9 68 3 = u1 → (u0.toInt ≠ 3 ∨ u1.toInt ≤ 399) → Q (some (.int v)) hx9) : ∀ (l2 : Int32) (g0 : Int32) (g1 : Int32) (h : jH), 0 ≤ l2.toInt ∧ l2.toInt ≤ 1 → 0 ≤ g0.toInt ∧ g0.toInt ≤ 400 → 0 ≤ g1.toInt ∧ g1.toInt ≤ 3 → (g1.toInt ≠ 3 ∨ g0.toInt ≤ 399) → jiv h 68 3 = g0 → jiv h 68 5 = g1 → jJ jSgX Dy h → jSm fp_X2_readPlain_r95_c3 h0 h → jX m_X2_readPlain 17 0 0 190 [(0, .ref 95), (1, .int 3), (2, .int l2)] [.int 7] h 0 0 Q := by
  intro l2 g0 g1 h y0 y1 y2 y3 z0 z1  J Sm
  refine x_istore (lsx9 := [(4, .int 7), (0, .ref 95), (1, .int 3), (2, .int l2)]) rfl rfl rfl ?_
  refine x_iload (x := 7) rfl rfl ?_
  refine x_iconst (v := (-1)) rfl ki_m1 ?_
  refine x_icne (tgt := 206) rfl rfl (ti_ne jk_7 jk_m1 (bn_t (by omega) ?_))
  refine x_aloadn (x := 95) rfl rfl ?_
  refine z_getR (N := 6) (b := 68) 2 0 rfl f_2_30 rfl J rfl 12160 ⟨rfl, rfl⟩ rfl ?_
  refine x_inv (N := m_X9_step) (As := []) (b := 68) (st := []) (dx9 := 2) (mc := 0) (ms := 0) (host := "") 9 rfl t_X9_step ⟨Or.inl q_2_62, i_X9_step.1, i_X9_step.2⟩ ⟨by decide, rfl⟩ (congrArg Prod.fst (J.1.1 68 (9, 6) rfl)) rfl (by decide) rfl rfl ⟨by decide, by decide⟩ (sf_X9_step_r68  hD J z1 z0 (by omega)  (fun h J S1 u2 u3 qu2 qu3 ru2 => ?_))
  have Sm := jSm_tr rfl Sm S1
  have eu2 := (show 0 ≤ u2.toInt ∧ u2.toInt ≤ 3 from qu2 ▸ jrg_f J sg_68_5_6_1_0_1)
  have eu3 := (show 0 ≤ u3.toInt ∧ u3.toInt ≤ 400 from qu3 ▸ jrg_f J sg_68_3_4_1_0_1)
  show jX m_X2_readPlain 17 0 0 213 [(4, .int 7), (0, .ref 95), (1, .int 3), (2, .int l2)] [] _ 0 0 _
  refine x_aloadn (x := 95) rfl rfl ?_
  refine x_iloadn (x := 3) rfl rfl ?_
  refine x_inv (N := m_X2_readSum) (As := [.int 3]) (b := 95) (st := []) (dx9 := 16) (mc := 0) (ms := 0) (host := "") 2 rfl t_X2_readSum ⟨Or.inl q_2_86, i_X2_readSum.1, i_X2_readSum.2⟩ ⟨by decide, rfl⟩ (congrArg Prod.fst (J.1.1 95 (2, 6) rfl)) rfl (by decide) rfl rfl ⟨by decide, by decide⟩ (sf_X2_readSum_r95_c3  hD J qu2 qu3 (by omega)  (fun v7 h ev7 J S4 u5 u6 qu5 qu6 ru5 => ?_))
  have Sm := jSm_tr rfl Sm S4
  have eu5 := (show 0 ≤ u5.toInt ∧ u5.toInt ≤ 3 from qu5 ▸ jrg_f J sg_68_5_6_1_0_1)
  have eu6 := (show 0 ≤ u6.toInt ∧ u6.toInt ≤ 400 from qu6 ▸ jrg_f J sg_68_3_4_1_0_1)
  show jX m_X2_readPlain 17 0 0 218 [(4, .int 7), (0, .ref 95), (1, .int 3), (2, .int l2)] [.int v7] _ 0 0 _
  refine x_ifne (tgt := 223) rfl rfl (ti_ne rfl jk_0 ⟨fun c8 => ?_, fun c8 => ?_⟩)
  ·
    refine x_aloadn (x := 95) rfl rfl ?_
    refine x_iload (x := 7) rfl rfl ?_
    refine x_inv (N := m_X2_emit) (As := [.int 7]) (b := 95) (st := []) (dx9 := 1) (mc := 0) (ms := 0) (host := "") 2 rfl t_X2_emit ⟨Or.inl q_2_89, i_X2_emit.1, i_X2_emit.2⟩ ⟨by decide, rfl⟩ (congrArg Prod.fst (J.1.1 95 (2, 6) rfl)) rfl (by decide) rfl rfl ⟨by decide, by decide⟩ (sf_X2_emit_r95  hD J  (fun h J S9 => ?_))
    have Sm := jSm_tr rfl Sm S9
    show jX m_X2_readPlain 17 0 0 229 [(4, .int 7), (0, .ref 95), (1, .int 3), (2, .int l2)] [] _ 0 0 _
    exact jX.sub (jsb_c rfl (jsb_c rfl jsb_n)) (ct_X2_readPlain_r95_c3_229 hD hQ  l2 u6 u5 h (jr_of rfl (by omega)) (jr_of rfl (by omega)) (jr_of rfl (by omega)) (by omega) (jmc S9 rfl qu6) (jmc S9 rfl qu5) J Sm)
  ·
    refine x_iconst (v := 0) rfl ki_0 ?_
    refine x_zret rfl rfl (by decide) ?_
    exact hQ _ _ (jr_of jk_0 (by omega)) J Sm _ _ qu5 qu6 (by omega)
set_option maxRecDepth 100000 in
set_option maxHeartbeats 4000000 in
theorem ct_X2_readPlain_r95_c3_108 {Dy : jH → Prop} {h0 : jH} {Q : Option Value → jH → Prop} (hD : jDk Dy) (hQ : ∀ (v : Int32) hx9, 0 ≤ v.toInt ∧ v.toInt ≤ 1 → jJ jSgX Dy hx9 → jSm fp_X2_readPlain_r95_c3 h0 hx9 → ∀ u0 u1 : Int32, jiv hx9 68 5 = u0 → jiv hx9 68 3 = u1 → (u0.toInt ≠ 3 ∨ u1.toInt ≤ 399) → Q (some (.int v)) hx9) : ∀ (g0 : Int32) (g1 : Int32) (h : jH), 0 ≤ g0.toInt ∧ g0.toInt ≤ 400 → 0 ≤ g1.toInt ∧ g1.toInt ≤ 3 → (g1.toInt ≠ 3 ∨ g0.toInt ≤ 399) → jiv h 68 3 = g0 → jiv h 68 5 = g1 → jJ jSgX Dy h → jSm fp_X2_readPlain_r95_c3 h0 h → jX m_X2_readPlain 17 0 0 108 [] [] h 0 0 Q := by
  intro g0 g1 h y0 y1 y2 z0 z1  J Sm
  refine x_iconst (v := 0) rfl ki_0 ?_
  refine x_zret rfl rfl (by decide) ?_
  exact hQ _ _ (jr_of jk_0 (by omega)) J Sm _ _ z1 z0 (by omega)
set_option maxRecDepth 100000 in
set_option maxHeartbeats 4000000 in
theorem ct_X2_readPlain_r95_c3_46 {Dy : jH → Prop} {h0 : jH} {Q : Option Value → jH → Prop} (hD : jDk Dy) (hQ : ∀ (v : Int32) hx9, 0 ≤ v.toInt ∧ v.toInt ≤ 1 → jJ jSgX Dy hx9 → jSm fp_X2_readPlain_r95_c3 h0 hx9 → ∀ u0 u1 : Int32, jiv hx9 68 5 = u0 → jiv hx9 68 3 = u1 → (u0.toInt ≠ 3 ∨ u1.toInt ≤ 399) → Q (some (.int v)) hx9) : ∀ (l2 : Int32) (g0 : Int32) (g1 : Int32) (h : jH), 0 ≤ l2.toInt ∧ l2.toInt ≤ 1 → 0 ≤ g0.toInt ∧ g0.toInt ≤ 400 → 0 ≤ g1.toInt ∧ g1.toInt ≤ 3 → (g1.toInt ≠ 3 ∨ g0.toInt ≤ 399) → jiv h 68 3 = g0 → jiv h 68 5 = g1 → jJ jSgX Dy h → jSm fp_X2_readPlain_r95_c3 h0 h → jX m_X2_readPlain 17 0 0 46 [(0, .ref 95), (1, .int 3), (2, .int l2)] [] h 0 0 Q := by
  intro l2 g0 g1 h y0 y1 y2 y3 z0 z1  J Sm
  refine x_aloadn (x := 95) rfl rfl ?_
  refine z_getR (N := 6) (b := 68) 2 0 rfl f_2_30 rfl J rfl 12160 ⟨rfl, rfl⟩ rfl ?_
  refine x_ldcS (jstr.getD 10 jstr_0) rfl (List.mem_of_getElem? (i := 10) rfl) rfl rfl ?_
  show jX m_X2_readPlain 17 0 0 52 [(0, .ref 95), (1, .int 3), (2, .int l2)] [.ref 15, .ref 68] _ 0 0 _
  refine x_inv (N := m_X9_wordOf) (As := [.ref 15]) (b := 68) (st := []) (dx9 := 4) (mc := 0) (ms := 0) (host := "") 9 rfl t_X9_wordOf ⟨Or.inl q_2_67, i_X9_wordOf.1, i_X9_wordOf.2⟩ ⟨by decide, rfl⟩ (congrArg Prod.fst (J.1.1 68 (9, 6) rfl)) rfl (by decide) rfl rfl ⟨by decide, by decide⟩ (sf_X9_wordOf_r68_r15  hD J  (fun v2 h J S1 => ?_))
  have ev2 := jfull v2
  have Sm := jSm_tr rfl Sm S1
  show jX m_X2_readPlain 17 0 0 55 [(0, .ref 95), (1, .int 3), (2, .int l2)] [.int v2] _ 0 0 _
  refine x_istoren (lsx9 := [(3, .int v2), (0, .ref 95), (1, .int 3), (2, .int l2)]) rfl rfl rfl ?_
  refine x_aloadn (x := 95) rfl rfl ?_
  refine z_getR (N := 6) (b := 68) 2 0 rfl f_2_30 rfl J rfl 12160 ⟨rfl, rfl⟩ rfl ?_
  refine x_bipush (v := 40) rfl kb_40 ?_
  refine x_inv (N := m_X9_isSign) (As := [.int 40]) (b := 68) (st := []) (dx9 := 1) (mc := 0) (ms := 0) (host := "") 9 rfl t_X9_isSign ⟨Or.inl q_2_55, i_X9_isSign.1, i_X9_isSign.2⟩ ⟨by decide, rfl⟩ (congrArg Prod.fst (J.1.1 68 (9, 6) rfl)) rfl (by decide) rfl rfl ⟨by decide, by decide⟩ (sf_X9_isSign_r68 (jr_of jk_40 (by omega)) hD J (jmc S1 rfl z1) (jmc S1 rfl z0) (by omega)  (fun v6 h ev6 J S3 u4 u5 qu4 qu5 ru4 => ?_))
  have Sm := jSm_tr rfl Sm S3
  have eu4 := (show 0 ≤ u4.toInt ∧ u4.toInt ≤ 3 from qu4 ▸ jrg_f J sg_68_5_6_1_0_1)
  have eu5 := (show 0 ≤ u5.toInt ∧ u5.toInt ≤ 400 from qu5 ▸ jrg_f J sg_68_3_4_1_0_1)
  show jX m_X2_readPlain 17 0 0 65 [(3, .int v2), (0, .ref 95), (1, .int 3), (2, .int l2)] [.int v6] _ 0 0 _
  refine x_ifeq (tgt := 110) rfl rfl (ti_eq rfl jk_0 ⟨fun c7 => ?_, fun c7 => ?_⟩)
  ·
    refine x_iloadn (x := v2) rfl rfl ?_
    refine x_iconst (v := (-1)) rfl ki_m1 ?_
    refine x_iceq (tgt := 128) rfl rfl (ti_eq rfl jk_m1 ⟨fun c8 => ?_, fun c8 => ?_⟩)
    ·
      refine x_aloadn (x := 95) rfl rfl ?_
      refine x_iloadn (x := 3) rfl rfl ?_
      refine x_inv (N := m_X2_readSum) (As := [.int 3]) (b := 95) (st := []) (dx9 := 16) (mc := 0) (ms := 0) (host := "") 2 rfl t_X2_readSum ⟨Or.inl q_2_86, i_X2_readSum.1, i_X2_readSum.2⟩ ⟨by decide, rfl⟩ (congrArg Prod.fst (J.1.1 95 (2, 6) rfl)) rfl (by decide) rfl rfl ⟨by decide, by decide⟩ (sf_X2_readSum_r95_c3  hD J qu4 qu5 (by omega)  (fun v12 h ev12 J S9 u10 u11 qu10 qu11 ru10 => ?_))
      have Sm := jSm_tr rfl Sm S9
      have eu10 := (show 0 ≤ u10.toInt ∧ u10.toInt ≤ 3 from qu10 ▸ jrg_f J sg_68_5_6_1_0_1)
      have eu11 := (show 0 ≤ u11.toInt ∧ u11.toInt ≤ 400 from qu11 ▸ jrg_f J sg_68_3_4_1_0_1)
      show jX m_X2_readPlain 17 0 0 133 [(3, .int v2), (0, .ref 95), (1, .int 3), (2, .int l2)] [.int v12] _ 0 0 _
      refine x_ifne (tgt := 138) rfl rfl (ti_ne rfl jk_0 ⟨fun c13 => ?_, fun c13 => ?_⟩)
      ·
        refine x_aloadn (x := 95) rfl rfl ?_
        refine z_getR (N := 6) (b := 68) 2 0 rfl f_2_30 rfl J rfl 12160 ⟨rfl, rfl⟩ rfl ?_
        refine x_bipush (v := 60) rfl kb_60 ?_
        refine x_inv (N := m_X9_isSign) (As := [.int 60]) (b := 68) (st := []) (dx9 := 1) (mc := 0) (ms := 0) (host := "") 9 rfl t_X9_isSign ⟨Or.inl q_2_55, i_X9_isSign.1, i_X9_isSign.2⟩ ⟨by decide, rfl⟩ (congrArg Prod.fst (J.1.1 68 (9, 6) rfl)) rfl (by decide) rfl rfl ⟨by decide, by decide⟩ (sf_X9_isSign_r68 (jr_of jk_60 (by omega)) hD J qu10 qu11 (by omega)  (fun v17 h ev17 J S14 u15 u16 qu15 qu16 ru15 => ?_))
        have Sm := jSm_tr rfl Sm S14
        have eu15 := (show 0 ≤ u15.toInt ∧ u15.toInt ≤ 3 from qu15 ▸ jrg_f J sg_68_5_6_1_0_1)
        have eu16 := (show 0 ≤ u16.toInt ∧ u16.toInt ≤ 400 from qu16 ▸ jrg_f J sg_68_3_4_1_0_1)
        show jX m_X2_readPlain 17 0 0 147 [(3, .int v2), (0, .ref 95), (1, .int 3), (2, .int l2)] [.int v17] _ 0 0 _
        refine x_ifeq (tgt := 155) rfl rfl (ti_eq rfl jk_0 ⟨fun c18 => ?_, fun c18 => ?_⟩)
        ·
          refine x_aloadn (x := 95) rfl rfl ?_
          refine z_getR (N := 6) (b := 68) 2 0 rfl f_2_30 rfl J rfl 12160 ⟨rfl, rfl⟩ rfl ?_
          refine x_bipush (v := 62) rfl kb_62 ?_
          refine x_inv (N := m_X9_isSign) (As := [.int 62]) (b := 68) (st := []) (dx9 := 1) (mc := 0) (ms := 0) (host := "") 9 rfl t_X9_isSign ⟨Or.inl q_2_55, i_X9_isSign.1, i_X9_isSign.2⟩ ⟨by decide, rfl⟩ (congrArg Prod.fst (J.1.1 68 (9, 6) rfl)) rfl (by decide) rfl rfl ⟨by decide, by decide⟩ (sf_X9_isSign_r68 (jr_of jk_62 (by omega)) hD J qu15 qu16 (by omega)  (fun v22 h ev22 J S19 u20 u21 qu20 qu21 ru20 => ?_))
          have Sm := jSm_tr rfl Sm S19
          have eu20 := (show 0 ≤ u20.toInt ∧ u20.toInt ≤ 3 from qu20 ▸ jrg_f J sg_68_5_6_1_0_1)
          have eu21 := (show 0 ≤ u21.toInt ∧ u21.toInt ≤ 400 from qu21 ▸ jrg_f J sg_68_3_4_1_0_1)
          show jX m_X2_readPlain 17 0 0 164 [(3, .int v2), (0, .ref 95), (1, .int 3), (2, .int l2)] [.int v22] _ 0 0 _
          refine x_ifeq (tgt := 172) rfl rfl (ti_eq rfl jk_0 ⟨fun c23 => ?_, fun c23 => ?_⟩)
          ·
            refine x_aloadn (x := 95) rfl rfl ?_
            refine z_getR (N := 6) (b := 68) 2 0 rfl f_2_30 rfl J rfl 12160 ⟨rfl, rfl⟩ rfl ?_
            refine x_bipush (v := 61) rfl kb_61 ?_
            refine x_inv (N := m_X9_isSign) (As := [.int 61]) (b := 68) (st := []) (dx9 := 1) (mc := 0) (ms := 0) (host := "") 9 rfl t_X9_isSign ⟨Or.inl q_2_55, i_X9_isSign.1, i_X9_isSign.2⟩ ⟨by decide, rfl⟩ (congrArg Prod.fst (J.1.1 68 (9, 6) rfl)) rfl (by decide) rfl rfl ⟨by decide, by decide⟩ (sf_X9_isSign_r68 (jr_of jk_61 (by omega)) hD J qu20 qu21 (by omega)  (fun v27 h ev27 J S24 u25 u26 qu25 qu26 ru25 => ?_))
            have Sm := jSm_tr rfl Sm S24
            have eu25 := (show 0 ≤ u25.toInt ∧ u25.toInt ≤ 3 from qu25 ▸ jrg_f J sg_68_5_6_1_0_1)
            have eu26 := (show 0 ≤ u26.toInt ∧ u26.toInt ≤ 400 from qu26 ▸ jrg_f J sg_68_3_4_1_0_1)
            show jX m_X2_readPlain 17 0 0 181 [(3, .int v2), (0, .ref 95), (1, .int 3), (2, .int l2)] [.int v27] _ 0 0 _
            refine x_ifeq (tgt := 189) rfl rfl (ti_eq rfl jk_0 ⟨fun c28 => ?_, fun c28 => ?_⟩)
            ·
              refine x_iconst (v := (-1)) rfl ki_m1 ?_
              exact jX.sub (jsb_c rfl (jsb_c rfl (jsb_c rfl jsb_n))) (ct_X2_readPlain_r95_c3_100190 hD hQ  l2 u26 u25 h (jr_of rfl (by omega)) (jr_of rfl (by omega)) (jr_of rfl (by omega)) (by omega) qu26 qu25 J Sm)
            ·
              refine x_bipush (v := 9) rfl kb_9 ?_
              refine x_goto (tgt := 190) rfl rfl ?_
              exact jX.sub (jsb_c rfl (jsb_c rfl (jsb_c rfl jsb_n))) (ct_X2_readPlain_r95_c3_190 hD hQ  l2 u26 u25 h (jr_of rfl (by omega)) (jr_of rfl (by omega)) (jr_of rfl (by omega)) (by omega) qu26 qu25 J Sm)
          ·
            refine x_bipush (v := 8) rfl kb_8 ?_
            refine x_goto (tgt := 190) rfl rfl ?_
            exact jX.sub (jsb_c rfl (jsb_c rfl (jsb_c rfl jsb_n))) (ct_X2_readPlain_r95_c3_1000190 hD hQ  l2 u21 u20 h (jr_of rfl (by omega)) (jr_of rfl (by omega)) (jr_of rfl (by omega)) (by omega) qu21 qu20 J Sm)
        ·
          refine x_bipush (v := 7) rfl kb_7 ?_
          refine x_goto (tgt := 190) rfl rfl ?_
          exact jX.sub (jsb_c rfl (jsb_c rfl (jsb_c rfl jsb_n))) (ct_X2_readPlain_r95_c3_900190 hD hQ  l2 u16 u15 h (jr_of rfl (by omega)) (jr_of rfl (by omega)) (jr_of rfl (by omega)) (by omega) qu16 qu15 J Sm)
      ·
        refine x_iconst (v := 0) rfl ki_0 ?_
        refine x_zret rfl rfl (by decide) ?_
        exact hQ _ _ (jr_of jk_0 (by omega)) J Sm _ _ qu10 qu11 (by omega)
    ·
      refine x_aloadn (x := 95) rfl rfl ?_
      refine x_iconst (v := 2) rfl ki_2 ?_
      refine x_iconst (v := 5) rfl ki_5 ?_
      refine x_iloadn (x := v2) rfl rfl ?_
      refine z_iadd0 rfl (fun v29 => ?_)
      have ev29 := jfull v29
      refine x_inv (N := m_X2_readPart) (As := [.int 2, .int v29]) (b := 95) (st := []) (dx9 := 3) (mc := 0) (ms := 0) (host := "") 2 rfl t_X2_readPart ⟨Or.inl q_2_141, i_X2_readPart.1, i_X2_readPart.2⟩ ⟨by decide, rfl⟩ (congrArg Prod.fst (J.1.1 95 (2, 6) rfl)) rfl (by decide) rfl rfl ⟨by decide, by decide⟩ (sf_X2_readPart_r95 (jr_of jk_2 (by omega)) hD J qu4 qu5 (by omega)  (fun v33 h ev33 J S30 u31 u32 qu31 qu32 ru31 => ?_))
      have Sm := jSm_tr rfl Sm S30
      have eu31 := (show 0 ≤ u31.toInt ∧ u31.toInt ≤ 3 from qu31 ▸ jrg_f J sg_68_5_6_1_0_1)
      have eu32 := (show 0 ≤ u32.toInt ∧ u32.toInt ≤ 400 from qu32 ▸ jrg_f J sg_68_3_4_1_0_1)
      show jX m_X2_readPlain 17 0 0 123 [(3, .int v2), (0, .ref 95), (1, .int 3), (2, .int l2)] [.int v33] _ 0 0 _
      refine x_ifne (tgt := 229) rfl rfl (ti_ne rfl jk_0 ⟨fun c34 => ?_, fun c34 => ?_⟩)
      ·
        exact jX.sub (jsb_c rfl (jsb_c rfl jsb_n)) (ct_X2_readPlain_r95_c3_229 hD hQ  l2 u32 u31 h (jr_of rfl (by omega)) (jr_of rfl (by omega)) (jr_of rfl (by omega)) (by omega) qu32 qu31 J Sm)
      ·
        refine x_iconst (v := 0) rfl ki_0 ?_
        refine x_zret rfl rfl (by decide) ?_
        exact hQ _ _ (jr_of jk_0 (by omega)) J Sm _ _ qu31 qu32 (by omega)
  ·
    refine x_iloadn (x := 3) rfl rfl ?_
    refine x_bipush (v := 8) rfl kb_8 ?_
    refine x_iclt (tgt := 82) rfl rfl (ti_lt jk_3 jk_8 (br_t (by omega) ?_))
    refine x_aloadn (x := 95) rfl rfl ?_
    refine z_getR (N := 6) (b := 68) 2 0 rfl f_2_30 rfl J rfl 12160 ⟨rfl, rfl⟩ rfl ?_
    refine x_inv (N := m_X9_step) (As := []) (b := 68) (st := []) (dx9 := 2) (mc := 0) (ms := 0) (host := "") 9 rfl t_X9_step ⟨Or.inl q_2_62, i_X9_step.1, i_X9_step.2⟩ ⟨by decide, rfl⟩ (congrArg Prod.fst (J.1.1 68 (9, 6) rfl)) rfl (by decide) rfl rfl ⟨by decide, by decide⟩ (sf_X9_step_r68  hD J qu4 qu5 (by omega)  (fun h J S35 u36 u37 qu36 qu37 ru36 => ?_))
    have Sm := jSm_tr rfl Sm S35
    have eu36 := (show 0 ≤ u36.toInt ∧ u36.toInt ≤ 3 from qu36 ▸ jrg_f J sg_68_5_6_1_0_1)
    have eu37 := (show 0 ≤ u37.toInt ∧ u37.toInt ≤ 400 from qu37 ▸ jrg_f J sg_68_3_4_1_0_1)
    show jX m_X2_readPlain 17 0 0 89 [(3, .int v2), (0, .ref 95), (1, .int 3), (2, .int l2)] [] _ 0 0 _
    refine x_aloadn (x := 95) rfl rfl ?_
    refine x_iloadn (x := 3) rfl rfl ?_
    refine x_iconst (v := 1) rfl ki_1 ?_
    refine y_iadd (v := 4) rfl (by decide) ?_
    refine x_inv (N := m_X2_readTest) (As := [.int 4]) (b := 95) (st := []) (dx9 := 16) (mc := 0) (ms := 0) (host := "") 2 rfl t_X2_readTest ⟨Or.inl q_2_96, i_X2_readTest.1, i_X2_readTest.2⟩ ⟨by decide, rfl⟩ (congrArg Prod.fst (J.1.1 95 (2, 6) rfl)) rfl (by decide) rfl rfl ⟨by decide, by decide⟩ (sf_X2_readTest_r95_c4  hD J qu36 qu37 (by omega)  (fun v41 h ev41 J S38 u39 u40 qu39 qu40 ru39 => ?_))
    have Sm := jSm_tr rfl Sm S38
    have eu39 := (show 0 ≤ u39.toInt ∧ u39.toInt ≤ 3 from qu39 ▸ jrg_f J sg_68_5_6_1_0_1)
    have eu40 := (show 0 ≤ u40.toInt ∧ u40.toInt ≤ 400 from qu40 ▸ jrg_f J sg_68_3_4_1_0_1)
    show jX m_X2_readPlain 17 0 0 96 [(3, .int v2), (0, .ref 95), (1, .int 3), (2, .int l2)] [.int v41] _ 0 0 _
    refine x_ifeq (tgt := 108) rfl rfl (ti_eq rfl jk_0 ⟨fun c42 => ?_, fun c42 => ?_⟩)
    ·
      exact jX.sub jsb_n (ct_X2_readPlain_r95_c3_108 hD hQ  u40 u39 h (jr_of rfl (by omega)) (jr_of rfl (by omega)) (by omega) qu40 qu39 J Sm)
    ·
      refine x_aloadn (x := 95) rfl rfl ?_
      refine x_bipush (v := 41) rfl kb_41 ?_
      refine x_inv (N := m_X2_readSign) (As := [.int 41]) (b := 95) (st := []) (dx9 := 16) (mc := 0) (ms := 0) (host := "") 2 rfl t_X2_readSign ⟨Or.inl q_2_138, i_X2_readSign.1, i_X2_readSign.2⟩ ⟨by decide, rfl⟩ (congrArg Prod.fst (J.1.1 95 (2, 6) rfl)) rfl (by decide) rfl rfl ⟨by decide, by decide⟩ (jC.of rfl k_X2_readSign rfl ?_)
      show jX m_X2_readSign 16 0 0 0 [(0, .ref 95), (1, .int 41)] [] _ 0 0 _
      refine x_aloadn (x := 95) rfl rfl ?_
      refine z_getR (N := 6) (b := 68) 2 0 rfl f_2_30 rfl J rfl 12160 ⟨rfl, rfl⟩ rfl ?_
      refine x_iloadn (x := 41) rfl rfl ?_
      refine x_inv (N := m_X9_isSign) (As := [.int 41]) (b := 68) (st := []) (dx9 := 1) (mc := 0) (ms := 0) (host := "") 9 rfl t_X9_isSign ⟨Or.inl q_2_55, i_X9_isSign.1, i_X9_isSign.2⟩ ⟨by decide, rfl⟩ (congrArg Prod.fst (J.1.1 68 (9, 6) rfl)) rfl (by decide) rfl rfl ⟨by decide, by decide⟩ (sf_X9_isSign_r68 (jr_of jk_41 (by omega)) hD J qu39 qu40 (by omega)  (fun v46 h ev46 J S43 u44 u45 qu44 qu45 ru44 => ?_))
      have Sm := jSm_tr rfl Sm S43
      have eu44 := (show 0 ≤ u44.toInt ∧ u44.toInt ≤ 3 from qu44 ▸ jrg_f J sg_68_5_6_1_0_1)
      have eu45 := (show 0 ≤ u45.toInt ∧ u45.toInt ≤ 400 from qu45 ▸ jrg_f J sg_68_3_4_1_0_1)
      show jX m_X2_readSign 16 0 0 8 [(0, .ref 95), (1, .int 41)] [.int v46] _ 0 0 _
      refine x_ifne (tgt := 19) rfl rfl (ti_ne rfl jk_0 ⟨fun c47 => ?_, fun c47 => ?_⟩)
      ·
        refine x_aloadn (x := 95) rfl rfl ?_
        refine z_getR (N := 6) (b := 68) 2 0 rfl f_2_30 rfl J rfl 12160 ⟨rfl, rfl⟩ rfl ?_
        refine x_inv (N := m_X9_step) (As := []) (b := 68) (st := []) (dx9 := 2) (mc := 0) (ms := 0) (host := "") 9 rfl t_X9_step ⟨Or.inl q_2_62, i_X9_step.1, i_X9_step.2⟩ ⟨by decide, rfl⟩ (congrArg Prod.fst (J.1.1 68 (9, 6) rfl)) rfl (by decide) rfl rfl ⟨by decide, by decide⟩ (sf_X9_step_r68  hD J qu44 qu45 (by omega)  (fun h J S48 u49 u50 qu49 qu50 ru49 => ?_))
        have Sm := jSm_tr rfl Sm S48
        have eu49 := (show 0 ≤ u49.toInt ∧ u49.toInt ≤ 3 from qu49 ▸ jrg_f J sg_68_5_6_1_0_1)
        have eu50 := (show 0 ≤ u50.toInt ∧ u50.toInt ≤ 400 from qu50 ▸ jrg_f J sg_68_3_4_1_0_1)
        show jX m_X2_readSign 16 0 0 26 [(0, .ref 95), (1, .int 41)] [] _ 0 0 _
        refine x_iconst (v := 1) rfl ki_1 ?_
        refine x_zret rfl rfl (by decide) ?_
        show jX m_X2_readPlain 17 0 0 105 [(3, .int v2), (0, .ref 95), (1, .int 3), (2, .int l2)] [.int 1] _ 0 0 _
        refine x_ifne (tgt := 229) rfl rfl (ti_ne jk_1 jk_0 (bn_t (by omega) ?_))
        exact jX.sub (jsb_c rfl (jsb_c rfl jsb_n)) (ct_X2_readPlain_r95_c3_229 hD hQ  l2 u50 u49 h (jr_of rfl (by omega)) (jr_of rfl (by omega)) (jr_of rfl (by omega)) (by omega) qu50 qu49 J Sm)
      ·
        refine x_aloadn (x := 95) rfl rfl ?_
        refine z_getR (N := 6) (b := 68) 2 0 rfl f_2_30 rfl J rfl 12160 ⟨rfl, rfl⟩ rfl ?_
        refine x_inv (N := m_X9_blame) (As := []) (b := 68) (st := []) (dx9 := 15) (mc := 0) (ms := 0) (host := "") 9 rfl t_X9_blame ⟨Or.inl q_2_59, i_X9_blame.1, i_X9_blame.2⟩ ⟨by decide, rfl⟩ (congrArg Prod.fst (J.1.1 68 (9, 6) rfl)) rfl (by decide) rfl rfl ⟨by decide, by decide⟩ (jC.of rfl k_X9_blame rfl ?_)
        show jX m_X9_blame 15 0 0 0 [(0, .ref 68)] [] _ 0 0 _
        refine x_aloadn (x := 68) rfl rfl ?_
        refine x_aloadn (x := 68) rfl rfl ?_
        refine z_getM (N := 6) (v := u45) 9 3 rfl f_9_22 rfl J rfl qu45 ?_
        refine z_putI (N := 6) (w := u45.toInt) 9 2 rfl f_9_19 rfl (jfin_no TX9 RX9 6 rfl rfl) hD J Sm rfl rfl rfl (pw_68_2 (by omega)) rfl (fun h w51 J Sm => ?_)
        refine x_iconst (v := 0) rfl ki_0 ?_
        refine x_zret rfl rfl (by decide) ?_
        show jX m_X2_readSign 16 0 0 18 [(0, .ref 95), (1, .int 41)] [.int 0] _ 0 0 _
        refine x_zret rfl rfl (by decide) ?_
        show jX m_X2_readPlain 17 0 0 105 [(3, .int v2), (0, .ref 95), (1, .int 3), (2, .int l2)] [.int 0] _ 0 0 _
        refine x_ifne (tgt := 229) rfl rfl (ti_ne jk_0 jk_0 (bn_f (by omega) ?_))
        exact jX.sub jsb_n (ct_X2_readPlain_r95_c3_108 hD hQ  u45 u44 h (jr_of rfl (by omega)) (jr_of rfl (by omega)) (by omega) (jmo w51 rfl qu45) (jmo w51 rfl qu44) J Sm)
set_option maxRecDepth 100000 in
set_option maxHeartbeats 4000000 in
theorem ct_X2_readPlain_r95_c3_300032 {Dy : jH → Prop} {h0 : jH} {Q : Option Value → jH → Prop} {R4 : Int} (hD : jDk Dy) (hQ : ∀ (v : Int32) hx9, 0 ≤ v.toInt ∧ v.toInt ≤ 1 → jJ jSgX Dy hx9 → jSm fp_X2_readPlain_r95_c3 h0 hx9 → ∀ u0 u1 : Int32, jiv hx9 68 5 = u0 → jiv hx9 68 3 = u1 → (u0.toInt ≠ 3 ∨ u1.toInt ≤ 399) → Q (some (.int v)) hx9) (k4 : ∀ (l2 : Int32) (l3 : Int32) (g0 : Int32) (g1 : Int32) (h : jH), 400 - l3.toInt < R4 → 0 ≤ l2.toInt ∧ l2.toInt ≤ 1 → 0 ≤ l3.toInt ∧ l3.toInt ≤ 400 → 0 ≤ g0.toInt ∧ g0.toInt ≤ 400 → 0 ≤ g1.toInt ∧ g1.toInt ≤ 3 → (g1.toInt ≠ 3 ∨ g0.toInt ≤ 399) → jiv h 68 3 = g0 → jiv h 68 5 = g1 → jJ jSgX Dy h → jSm fp_X2_readPlain_r95_c3 h0 h → jX m_X2_readPlain 17 0 0 4 [(0, .ref 95), (1, .int 3), (2, .int l2), (3, .int l3)] [] h 0 0 Q) : ∀ (l3 : Int32) (g0 : Int32) (g1 : Int32) (h : jH), 0 ≤ l3.toInt ∧ l3.toInt ≤ 399 → 0 ≤ g0.toInt ∧ g0.toInt ≤ 400 → 0 ≤ g1.toInt ∧ g1.toInt ≤ 3 → (g1.toInt ≠ 3 ∨ g0.toInt ≤ 399) → jiv h 68 3 = g0 → jiv h 68 5 = g1 → 400 - l3.toInt ≤ R4 → jJ jSgX Dy h → jSm fp_X2_readPlain_r95_c3 h0 h → jX m_X2_readPlain 17 0 0 32 [(0, .ref 95), (1, .int 3), (3, .int l3)] [.int 1] h 0 0 Q := by
  intro l3 g0 g1 h y0 y1 y2 y3 z0 z1 m4 J Sm
  refine x_istoren (lsx9 := [(2, .int 1), (0, .ref 95), (1, .int 3), (3, .int l3)]) rfl rfl rfl ?_
  refine x_aloadn (x := 95) rfl rfl ?_
  refine z_getR (N := 6) (b := 68) 2 0 rfl f_2_30 rfl J rfl 12160 ⟨rfl, rfl⟩ rfl ?_
  refine x_inv (N := m_X9_step) (As := []) (b := 68) (st := []) (dx9 := 2) (mc := 0) (ms := 0) (host := "") 9 rfl t_X9_step ⟨Or.inl q_2_62, i_X9_step.1, i_X9_step.2⟩ ⟨by decide, rfl⟩ (congrArg Prod.fst (J.1.1 68 (9, 6) rfl)) rfl (by decide) rfl rfl ⟨by decide, by decide⟩ (sf_X9_step_r68  hD J z1 z0 (by omega)  (fun h J S1 u2 u3 qu2 qu3 ru2 => ?_))
  have Sm := jSm_tr rfl Sm S1
  have eu2 := (show 0 ≤ u2.toInt ∧ u2.toInt ≤ 3 from qu2 ▸ jrg_f J sg_68_5_6_1_0_1)
  have eu3 := (show 0 ≤ u3.toInt ∧ u3.toInt ≤ 400 from qu3 ▸ jrg_f J sg_68_3_4_1_0_1)
  show jX m_X2_readPlain 17 0 0 40 [(2, .int 1), (0, .ref 95), (1, .int 3), (3, .int l3)] [] _ 0 0 _
  refine z_iinc (x := l3) (lsx9 := fun v4 => [(3, .int v4), (2, .int 1), (0, .ref 95), (1, .int 3)]) rfl rfl rfl jko_1 (by omega) rfl (fun _ => rfl) (fun v4 ev4 => ?_)
  refine x_goto (tgt := 4) rfl rfl ?_
  exact jX.sub (jsb_c rfl (jsb_c rfl (jsb_c rfl (jsb_c rfl jsb_n)))) (k4 1 v4 u3 u2 h (by omega) (jr_of jk_1 (by omega)) (jr_of rfl (by omega)) (jr_of rfl (by omega)) (jr_of rfl (by omega)) (by omega) qu3 qu2 J Sm)
set_option maxRecDepth 100000 in
set_option maxHeartbeats 4000000 in
theorem ct_X2_readPlain_r95_c3_200032 {Dy : jH → Prop} {h0 : jH} {Q : Option Value → jH → Prop} {R4 : Int} (hD : jDk Dy) (hQ : ∀ (v : Int32) hx9, 0 ≤ v.toInt ∧ v.toInt ≤ 1 → jJ jSgX Dy hx9 → jSm fp_X2_readPlain_r95_c3 h0 hx9 → ∀ u0 u1 : Int32, jiv hx9 68 5 = u0 → jiv hx9 68 3 = u1 → (u0.toInt ≠ 3 ∨ u1.toInt ≤ 399) → Q (some (.int v)) hx9) (k4 : ∀ (l2 : Int32) (l3 : Int32) (g0 : Int32) (g1 : Int32) (h : jH), 400 - l3.toInt < R4 → 0 ≤ l2.toInt ∧ l2.toInt ≤ 1 → 0 ≤ l3.toInt ∧ l3.toInt ≤ 400 → 0 ≤ g0.toInt ∧ g0.toInt ≤ 400 → 0 ≤ g1.toInt ∧ g1.toInt ≤ 3 → (g1.toInt ≠ 3 ∨ g0.toInt ≤ 399) → jiv h 68 3 = g0 → jiv h 68 5 = g1 → jJ jSgX Dy h → jSm fp_X2_readPlain_r95_c3 h0 h → jX m_X2_readPlain 17 0 0 4 [(0, .ref 95), (1, .int 3), (2, .int l2), (3, .int l3)] [] h 0 0 Q) : ∀ (l3 : Int32) (g0 : Int32) (g1 : Int32) (h : jH), 0 ≤ l3.toInt ∧ l3.toInt ≤ 399 → 0 ≤ g0.toInt ∧ g0.toInt ≤ 400 → 0 ≤ g1.toInt ∧ g1.toInt ≤ 3 → (g1.toInt ≠ 3 ∨ g0.toInt ≤ 399) → jiv h 68 3 = g0 → jiv h 68 5 = g1 → 400 - l3.toInt ≤ R4 → jJ jSgX Dy h → jSm fp_X2_readPlain_r95_c3 h0 h → jX m_X2_readPlain 17 0 0 32 [(0, .ref 95), (1, .int 3), (3, .int l3)] [.int 0] h 0 0 Q := by
  intro l3 g0 g1 h y0 y1 y2 y3 z0 z1 m4 J Sm
  refine x_istoren (lsx9 := [(2, .int 0), (0, .ref 95), (1, .int 3), (3, .int l3)]) rfl rfl rfl ?_
  refine x_aloadn (x := 95) rfl rfl ?_
  refine z_getR (N := 6) (b := 68) 2 0 rfl f_2_30 rfl J rfl 12160 ⟨rfl, rfl⟩ rfl ?_
  refine x_inv (N := m_X9_step) (As := []) (b := 68) (st := []) (dx9 := 2) (mc := 0) (ms := 0) (host := "") 9 rfl t_X9_step ⟨Or.inl q_2_62, i_X9_step.1, i_X9_step.2⟩ ⟨by decide, rfl⟩ (congrArg Prod.fst (J.1.1 68 (9, 6) rfl)) rfl (by decide) rfl rfl ⟨by decide, by decide⟩ (sf_X9_step_r68  hD J z1 z0 (by omega)  (fun h J S1 u2 u3 qu2 qu3 ru2 => ?_))
  have Sm := jSm_tr rfl Sm S1
  have eu2 := (show 0 ≤ u2.toInt ∧ u2.toInt ≤ 3 from qu2 ▸ jrg_f J sg_68_5_6_1_0_1)
  have eu3 := (show 0 ≤ u3.toInt ∧ u3.toInt ≤ 400 from qu3 ▸ jrg_f J sg_68_3_4_1_0_1)
  show jX m_X2_readPlain 17 0 0 40 [(2, .int 0), (0, .ref 95), (1, .int 3), (3, .int l3)] [] _ 0 0 _
  refine z_iinc (x := l3) (lsx9 := fun v4 => [(3, .int v4), (2, .int 0), (0, .ref 95), (1, .int 3)]) rfl rfl rfl jko_1 (by omega) rfl (fun _ => rfl) (fun v4 ev4 => ?_)
  refine x_goto (tgt := 4) rfl rfl ?_
  exact jX.sub (jsb_c rfl (jsb_c rfl (jsb_c rfl (jsb_c rfl jsb_n)))) (k4 0 v4 u3 u2 h (by omega) (jr_of jk_0 (by omega)) (jr_of rfl (by omega)) (jr_of rfl (by omega)) (jr_of rfl (by omega)) (by omega) qu3 qu2 J Sm)
set_option maxRecDepth 100000 in
set_option maxHeartbeats 4000000 in
theorem ct_X2_readPlain_r95_c3_4 {Dy : jH → Prop} {h0 : jH} {Q : Option Value → jH → Prop} (hD : jDk Dy) (hQ : ∀ (v : Int32) hx9, 0 ≤ v.toInt ∧ v.toInt ≤ 1 → jJ jSgX Dy hx9 → jSm fp_X2_readPlain_r95_c3 h0 hx9 → ∀ u0 u1 : Int32, jiv hx9 68 5 = u0 → jiv hx9 68 3 = u1 → (u0.toInt ≠ 3 ∨ u1.toInt ≤ 399) → Q (some (.int v)) hx9) : ∀ r : Nat, ∀ (l2 : Int32) (l3 : Int32) (g0 : Int32) (g1 : Int32) (h : jH), 400 - l3.toInt < (r : Int) → 0 ≤ l2.toInt ∧ l2.toInt ≤ 1 → 0 ≤ l3.toInt ∧ l3.toInt ≤ 400 → 0 ≤ g0.toInt ∧ g0.toInt ≤ 400 → 0 ≤ g1.toInt ∧ g1.toInt ≤ 3 → (g1.toInt ≠ 3 ∨ g0.toInt ≤ 399) → jiv h 68 3 = g0 → jiv h 68 5 = g1 → jJ jSgX Dy h → jSm fp_X2_readPlain_r95_c3 h0 h → jX m_X2_readPlain 17 0 0 4 [(0, .ref 95), (1, .int 3), (2, .int l2), (3, .int l3)] [] h 0 0 Q := by
  intro r
  induction r with
  | zero =>
    intro l2 l3 g0 g1 h hm y0 y1 y2 y3 y4 z0 z1  J Sm
    exfalso
    omega
  | succ r ih =>
    intro l2 l3 g0 g1 h hm y0 y1 y2 y3 y4 z0 z1  J Sm
    refine x_iloadn (x := l3) rfl rfl ?_
    refine x_sipush (v := 400) rfl ks_400 ?_
    refine x_icge (tgt := 46) rfl rfl (ti_ge rfl jk_400 ⟨fun c1 => ?_, fun c1 => ?_⟩)
    ·
      exact jX.sub (jsb_c rfl (jsb_c rfl (jsb_c rfl jsb_n))) (ct_X2_readPlain_r95_c3_46 hD hQ  l2 g0 g1 h (jr_of rfl (by omega)) (jr_of rfl (by omega)) (jr_of rfl (by omega)) (by omega) z0 z1 J Sm)
    ·
      refine x_aloadn (x := 95) rfl rfl ?_
      refine z_getR (N := 6) (b := 68) 2 0 rfl f_2_30 rfl J rfl 12160 ⟨rfl, rfl⟩ rfl ?_
      refine x_ldcS (jstr.getD 9 jstr_0) rfl (List.mem_of_getElem? (i := 9) rfl) rfl rfl ?_
      show jX m_X2_readPlain 17 0 0 17 [(0, .ref 95), (1, .int 3), (2, .int l2), (3, .int l3)] [.ref 14, .ref 68] _ 0 0 _
      refine x_inv (N := m_X9_wordOf) (As := [.ref 14]) (b := 68) (st := []) (dx9 := 4) (mc := 0) (ms := 0) (host := "") 9 rfl t_X9_wordOf ⟨Or.inl q_2_67, i_X9_wordOf.1, i_X9_wordOf.2⟩ ⟨by decide, rfl⟩ (congrArg Prod.fst (J.1.1 68 (9, 6) rfl)) rfl (by decide) rfl rfl ⟨by decide, by decide⟩ (sf_X9_wordOf_r68_r14  hD J  (fun v3 h J S2 => ?_))
      have ev3 := jfull v3
      have Sm := jSm_tr rfl Sm S2
      show jX m_X2_readPlain 17 0 0 20 [(0, .ref 95), (1, .int 3), (2, .int l2), (3, .int l3)] [.int v3] _ 0 0 _
      refine x_ifne (tgt := 46) rfl rfl (ti_ne rfl jk_0 ⟨fun c4 => ?_, fun c4 => ?_⟩)
      ·
        exact jX.sub (jsb_c rfl (jsb_c rfl (jsb_c rfl jsb_n))) (ct_X2_readPlain_r95_c3_46 hD hQ  l2 g0 g1 h (jr_of rfl (by omega)) (jr_of rfl (by omega)) (jr_of rfl (by omega)) (by omega) (jmc S2 rfl z0) (jmc S2 rfl z1) J Sm)
      ·
        refine x_iloadn (x := l2) rfl rfl ?_
        refine x_ifne (tgt := 31) rfl rfl (ti_ne rfl jk_0 ⟨fun c5 => ?_, fun c5 => ?_⟩)
        ·
          refine x_iconst (v := 0) rfl ki_0 ?_
          exact jX.sub (jsb_c rfl (jsb_c rfl (jsb_c rfl jsb_n))) (ct_X2_readPlain_r95_c3_200032 hD hQ ih l3 g0 g1 h (jr_of rfl (by omega)) (jr_of rfl (by omega)) (jr_of rfl (by omega)) (by omega) (jmc S2 rfl z0) (jmc S2 rfl z1) (by omega) J Sm)
        ·
          refine x_iconst (v := 1) rfl ki_1 ?_
          refine x_goto (tgt := 32) rfl rfl ?_
          exact jX.sub (jsb_c rfl (jsb_c rfl (jsb_c rfl jsb_n))) (ct_X2_readPlain_r95_c3_300032 hD hQ ih l3 g0 g1 h (jr_of rfl (by omega)) (jr_of rfl (by omega)) (jr_of rfl (by omega)) (by omega) (jmc S2 rfl z0) (jmc S2 rfl z1) (by omega) J Sm)
set_option maxRecDepth 100000 in
set_option maxHeartbeats 4000000 in
theorem sf_X2_readPlain_r95_c3 {Dy : jH → Prop} {h : jH} {Q : Option Value → jH → Prop} (hD : jDk Dy) (J : jJ jSgX Dy h) {p0 p1 : Int32} (zp0 : jiv h 68 5 = p0) (zp1 : jiv h 68 3 = p1) (rl_p0 : (p0.toInt ≠ 3 ∨ p1.toInt ≤ 399)) (hQ : ∀ (v : Int32) hx9, 0 ≤ v.toInt ∧ v.toInt ≤ 1 → jJ jSgX Dy hx9 → jSm fp_X2_readPlain_r95_c3 h hx9 → ∀ u0 u1 : Int32, jiv hx9 68 5 = u0 → jiv hx9 68 3 = u1 → (u0.toInt ≠ 3 ∨ u1.toInt ≤ 399) → Q (some (.int v)) hx9) : jC m_X2_readPlain 17 0 0 [.ref 95, .int 3] h Q := by
  refine jC.of rfl k_X2_readPlain rfl ?_
  have Sm := jSm_rf fp_X2_readPlain_r95_c3 h
  have ep0 := (show 0 ≤ p0.toInt ∧ p0.toInt ≤ 3 from zp0 ▸ jrg_f J sg_68_5_6_1_0_1)
  have ep1 := (show 0 ≤ p1.toInt ∧ p1.toInt ≤ 400 from zp1 ▸ jrg_f J sg_68_3_4_1_0_1)
  show jX m_X2_readPlain 17 0 0 0 [(0, .ref 95), (1, .int 3)] [] _ 0 0 _
  refine x_iconst (v := 0) rfl ki_0 ?_
  refine x_istoren (lsx9 := [(2, .int 0), (0, .ref 95), (1, .int 3)]) rfl rfl rfl ?_
  refine x_iconst (v := 0) rfl ki_0 ?_
  refine x_istoren (lsx9 := [(3, .int 0), (2, .int 0), (0, .ref 95), (1, .int 3)]) rfl rfl rfl ?_
  exact jX.sub (jsb_c rfl (jsb_c rfl (jsb_c rfl (jsb_c rfl jsb_n)))) (ct_X2_readPlain_r95_c3_4 hD hQ  401 0 0 p1 p0 h (by have := jk_0; omega) (jr_of jk_0 (by omega)) (jr_of jk_0 (by omega)) (jr_of rfl (by omega)) (jr_of rfl (by omega)) (by omega) zp1 zp0 J Sm)
def fp_X2_readTest_r95_c3 : jFp := [(68, 2, 3), (68, 3, 4), (68, 4, 5), (68, 5, 6), (95, 4, 5), (95, 5, 6), (97, 0, 1200)]
set_option maxRecDepth 100000 in
set_option maxHeartbeats 4000000 in
theorem ct_X2_readTest_r95_c3_77 {Dy : jH → Prop} {h0 : jH} {Q : Option Value → jH → Prop} {R4 : Int} (hD : jDk Dy) (hQ : ∀ (v : Int32) hx9, 0 ≤ v.toInt ∧ v.toInt ≤ 1 → jJ jSgX Dy hx9 → jSm fp_X2_readTest_r95_c3 h0 hx9 → ∀ u0 u1 : Int32, jiv hx9 68 5 = u0 → jiv hx9 68 3 = u1 → (u0.toInt ≠ 3 ∨ u1.toInt ≤ 399) → Q (some (.int v)) hx9) (k4 : ∀ (l2 : Int32) (l3 : Int32) (g0 : Int32) (g1 : Int32) (h : jH), 400 - l3.toInt < R4 → (-1) ≤ l2.toInt ∧ l2.toInt ≤ 1199 → 0 ≤ l3.toInt ∧ l3.toInt ≤ 400 → 0 ≤ g0.toInt ∧ g0.toInt ≤ 400 → 0 ≤ g1.toInt ∧ g1.toInt ≤ 3 → (g1.toInt ≠ 3 ∨ g0.toInt ≤ 399) → jiv h 68 3 = g0 → jiv h 68 5 = g1 → jJ jSgX Dy h → jSm fp_X2_readTest_r95_c3 h0 h → jX m_X2_readTest 18 0 0 4 [(0, .ref 95), (1, .int 3), (2, .int l2), (3, .int l3)] [] h 0 0 Q) : ∀ (l2 : Int32) (l3 : Int32) (g0 : Int32) (g1 : Int32) (h : jH), (-1) ≤ l2.toInt ∧ l2.toInt ≤ 1199 → 0 ≤ l3.toInt ∧ l3.toInt ≤ 399 → 0 ≤ g0.toInt ∧ g0.toInt ≤ 400 → 0 ≤ g1.toInt ∧ g1.toInt ≤ 3 → (g1.toInt ≠ 3 ∨ g0.toInt ≤ 399) → jiv h 68 3 = g0 → jiv h 68 5 = g1 → 400 - l3.toInt ≤ R4 → jJ jSgX Dy h → jSm fp_X2_readTest_r95_c3 h0 h → jX m_X2_readTest 18 0 0 77 [(0, .ref 95), (1, .int 3), (2, .int l2), (3, .int l3)] [] h 0 0 Q := by
  intro l2 l3 g0 g1 h y0 y1 y2 y3 y4 z0 z1 m4 J Sm
  refine x_aloadn (x := 95) rfl rfl ?_
  refine x_iloadn (x := l2) rfl rfl ?_
  refine x_inv (N := m_X2_land) (As := [.int l2]) (b := 95) (st := []) (dx9 := 1) (mc := 0) (ms := 0) (host := "") 2 rfl t_X2_land ⟨Or.inl q_2_124, i_X2_land.1, i_X2_land.2⟩ ⟨by decide, rfl⟩ (congrArg Prod.fst (J.1.1 95 (2, 6) rfl)) rfl (by decide) rfl rfl ⟨by decide, by decide⟩ (sf_X2_land_r95 (jr_of rfl (by omega)) hD J  (fun h J S1 => ?_))
  have Sm := jSm_tr rfl Sm S1
  show jX m_X2_readTest 18 0 0 82 [(0, .ref 95), (1, .int 3), (2, .int l2), (3, .int l3)] [] _ 0 0 _
  refine x_aloadn (x := 95) rfl rfl ?_
  refine z_getR (N := 6) (b := 68) 2 0 rfl f_2_30 rfl J rfl 12160 ⟨rfl, rfl⟩ rfl ?_
  refine x_ldcS (jstr.getD 12 jstr_0) rfl (List.mem_of_getElem? (i := 12) rfl) rfl rfl ?_
  show jX m_X2_readTest 18 0 0 88 [(0, .ref 95), (1, .int 3), (2, .int l2), (3, .int l3)] [.ref 17, .ref 68] _ 0 0 _
  refine x_inv (N := m_X9_wordOf) (As := [.ref 17]) (b := 68) (st := []) (dx9 := 4) (mc := 0) (ms := 0) (host := "") 9 rfl t_X9_wordOf ⟨Or.inl q_2_67, i_X9_wordOf.1, i_X9_wordOf.2⟩ ⟨by decide, rfl⟩ (congrArg Prod.fst (J.1.1 68 (9, 6) rfl)) rfl (by decide) rfl rfl ⟨by decide, by decide⟩ (sf_X9_wordOf_r68_r17  hD J  (fun v3 h J S2 => ?_))
  have ev3 := jfull v3
  have Sm := jSm_tr rfl Sm S2
  show jX m_X2_readTest 18 0 0 91 [(0, .ref 95), (1, .int 3), (2, .int l2), (3, .int l3)] [.int v3] _ 0 0 _
  refine x_ifeq (tgt := 96) rfl rfl (ti_eq rfl jk_0 ⟨fun c4 => ?_, fun c4 => ?_⟩)
  ·
    refine x_aloadn (x := 95) rfl rfl ?_
    refine x_bipush (v := 11) rfl kb_11 ?_
    refine x_inv (N := m_X2_leap) (As := [.int 11]) (b := 95) (st := []) (dx9 := 2) (mc := 0) (ms := 0) (host := "") 2 rfl t_X2_leap ⟨Or.inl q_2_129, i_X2_leap.1, i_X2_leap.2⟩ ⟨by decide, rfl⟩ (congrArg Prod.fst (J.1.1 95 (2, 6) rfl)) rfl (by decide) rfl rfl ⟨by decide, by decide⟩ (sf_X2_leap_r95 (jr_of jk_11 (by omega)) hD J  (fun v6 h ev6 J S5 => ?_))
    have Sm := jSm_tr rfl Sm S5
    show jX m_X2_readTest 18 0 0 102 [(0, .ref 95), (1, .int 3), (2, .int l2), (3, .int l3)] [.int v6] _ 0 0 _
    refine x_istoren (lsx9 := [(2, .int v6), (0, .ref 95), (1, .int 3), (3, .int l3)]) rfl rfl rfl ?_
    refine x_aloadn (x := 95) rfl rfl ?_
    refine z_getR (N := 6) (b := 68) 2 0 rfl f_2_30 rfl J rfl 12160 ⟨rfl, rfl⟩ rfl ?_
    refine x_inv (N := m_X9_step) (As := []) (b := 68) (st := []) (dx9 := 2) (mc := 0) (ms := 0) (host := "") 9 rfl t_X9_step ⟨Or.inl q_2_62, i_X9_step.1, i_X9_step.2⟩ ⟨by decide, rfl⟩ (congrArg Prod.fst (J.1.1 68 (9, 6) rfl)) rfl (by decide) rfl rfl ⟨by decide, by decide⟩ (sf_X9_step_r68  hD J (jmc S5 rfl (jmc S2 rfl (jmc S1 rfl z1))) (jmc S5 rfl (jmc S2 rfl (jmc S1 rfl z0))) (by omega)  (fun h J S7 u8 u9 qu8 qu9 ru8 => ?_))
    have Sm := jSm_tr rfl Sm S7
    have eu8 := (show 0 ≤ u8.toInt ∧ u8.toInt ≤ 3 from qu8 ▸ jrg_f J sg_68_5_6_1_0_1)
    have eu9 := (show 0 ≤ u9.toInt ∧ u9.toInt ≤ 400 from qu9 ▸ jrg_f J sg_68_3_4_1_0_1)
    show jX m_X2_readTest 18 0 0 110 [(2, .int v6), (0, .ref 95), (1, .int 3), (3, .int l3)] [] _ 0 0 _
    refine z_iinc (x := l3) (lsx9 := fun v10 => [(3, .int v10), (2, .int v6), (0, .ref 95), (1, .int 3)]) rfl rfl rfl jko_1 (by omega) rfl (fun _ => rfl) (fun v10 ev10 => ?_)
    refine x_goto (tgt := 4) rfl rfl ?_
    exact jX.sub (jsb_c rfl (jsb_c rfl (jsb_c rfl (jsb_c rfl jsb_n)))) (k4 v6 v10 u9 u8 h (by omega) (jr_of rfl (by omega)) (jr_of rfl (by omega)) (jr_of rfl (by omega)) (jr_of rfl (by omega)) (by omega) qu9 qu8 J Sm)
  ·
    refine x_iconst (v := 1) rfl ki_1 ?_
    refine x_zret rfl rfl (by decide) ?_
    exact hQ _ _ (jr_of jk_1 (by omega)) J Sm _ _ (jmc S2 rfl (jmc S1 rfl z1)) (jmc S2 rfl (jmc S1 rfl z0)) (by omega)
set_option maxRecDepth 100000 in
set_option maxHeartbeats 4000000 in
theorem ct_X2_readTest_r95_c3_17 {Dy : jH → Prop} {h0 : jH} {Q : Option Value → jH → Prop} {R4 : Int} (hD : jDk Dy) (hQ : ∀ (v : Int32) hx9, 0 ≤ v.toInt ∧ v.toInt ≤ 1 → jJ jSgX Dy hx9 → jSm fp_X2_readTest_r95_c3 h0 hx9 → ∀ u0 u1 : Int32, jiv hx9 68 5 = u0 → jiv hx9 68 3 = u1 → (u0.toInt ≠ 3 ∨ u1.toInt ≤ 399) → Q (some (.int v)) hx9) (k4 : ∀ (l2 : Int32) (l3 : Int32) (g0 : Int32) (g1 : Int32) (h : jH), 400 - l3.toInt < R4 → (-1) ≤ l2.toInt ∧ l2.toInt ≤ 1199 → 0 ≤ l3.toInt ∧ l3.toInt ≤ 400 → 0 ≤ g0.toInt ∧ g0.toInt ≤ 400 → 0 ≤ g1.toInt ∧ g1.toInt ≤ 3 → (g1.toInt ≠ 3 ∨ g0.toInt ≤ 399) → jiv h 68 3 = g0 → jiv h 68 5 = g1 → jJ jSgX Dy h → jSm fp_X2_readTest_r95_c3 h0 h → jX m_X2_readTest 18 0 0 4 [(0, .ref 95), (1, .int 3), (2, .int l2), (3, .int l3)] [] h 0 0 Q) : ∀ r : Nat, ∀ (l2 : Int32) (l3 : Int32) (l4 : Int32) (l5 : Int32) (g0 : Int32) (g1 : Int32) (h : jH), 400 - l5.toInt < (r : Int) → (-1) ≤ l2.toInt ∧ l2.toInt ≤ 1199 → 0 ≤ l3.toInt ∧ l3.toInt ≤ 399 → (-1) ≤ l4.toInt ∧ l4.toInt ≤ 1199 → 0 ≤ l5.toInt ∧ l5.toInt ≤ 400 → 0 ≤ g0.toInt ∧ g0.toInt ≤ 400 → 0 ≤ g1.toInt ∧ g1.toInt ≤ 3 → (g1.toInt ≠ 3 ∨ g0.toInt ≤ 399) → jiv h 68 3 = g0 → jiv h 68 5 = g1 → 400 - l3.toInt ≤ R4 → jJ jSgX Dy h → jSm fp_X2_readTest_r95_c3 h0 h → jX m_X2_readTest 18 0 0 17 [(0, .ref 95), (1, .int 3), (2, .int l2), (3, .int l3), (4, .int l4), (5, .int l5)] [] h 0 0 Q := by
  intro r
  induction r with
  | zero =>
    intro l2 l3 l4 l5 g0 g1 h hm y0 y1 y2 y3 y4 y5 y6 z0 z1 m4 J Sm
    exfalso
    omega
  | succ r ih =>
    intro l2 l3 l4 l5 g0 g1 h hm y0 y1 y2 y3 y4 y5 y6 z0 z1 m4 J Sm
    refine x_iload (x := l5) rfl rfl ?_
    refine x_sipush (v := 400) rfl ks_400 ?_
    refine x_icge (tgt := 77) rfl rfl (ti_ge rfl jk_400 ⟨fun c1 => ?_, fun c1 => ?_⟩)
    ·
      exact jX.sub (jsb_c rfl (jsb_c rfl (jsb_c rfl (jsb_c rfl jsb_n)))) (ct_X2_readTest_r95_c3_77 hD hQ k4 l2 l3 g0 g1 h (jr_of rfl (by omega)) (jr_of rfl (by omega)) (jr_of rfl (by omega)) (jr_of rfl (by omega)) (by omega) z0 z1 (by omega) J Sm)
    ·
      refine x_aloadn (x := 95) rfl rfl ?_
      refine x_iloadn (x := 3) rfl rfl ?_
      refine x_inv (N := m_X2_readPlain) (As := [.int 3]) (b := 95) (st := []) (dx9 := 17) (mc := 0) (ms := 0) (host := "") 2 rfl t_X2_readPlain ⟨Or.inl q_2_121, i_X2_readPlain.1, i_X2_readPlain.2⟩ ⟨by decide, rfl⟩ (congrArg Prod.fst (J.1.1 95 (2, 6) rfl)) rfl (by decide) rfl rfl ⟨by decide, by decide⟩ (sf_X2_readPlain_r95_c3  hD J z1 z0 (by omega)  (fun v5 h ev5 J S2 u3 u4 qu3 qu4 ru3 => ?_))
      have Sm := jSm_tr rfl Sm S2
      have eu3 := (show 0 ≤ u3.toInt ∧ u3.toInt ≤ 3 from qu3 ▸ jrg_f J sg_68_5_6_1_0_1)
      have eu4 := (show 0 ≤ u4.toInt ∧ u4.toInt ≤ 400 from qu4 ▸ jrg_f J sg_68_3_4_1_0_1)
      show jX m_X2_readTest 18 0 0 30 [(0, .ref 95), (1, .int 3), (2, .int l2), (3, .int l3), (4, .int l4), (5, .int l5)] [.int v5] _ 0 0 _
      refine x_ifne (tgt := 35) rfl rfl (ti_ne rfl jk_0 ⟨fun c6 => ?_, fun c6 => ?_⟩)
      ·
        refine x_aloadn (x := 95) rfl rfl ?_
        refine x_iload (x := l4) rfl rfl ?_
        refine x_inv (N := m_X2_land) (As := [.int l4]) (b := 95) (st := []) (dx9 := 1) (mc := 0) (ms := 0) (host := "") 2 rfl t_X2_land ⟨Or.inl q_2_124, i_X2_land.1, i_X2_land.2⟩ ⟨by decide, rfl⟩ (congrArg Prod.fst (J.1.1 95 (2, 6) rfl)) rfl (by decide) rfl rfl ⟨by decide, by decide⟩ (sf_X2_land_r95 (jr_of rfl (by omega)) hD J  (fun h J S7 => ?_))
        have Sm := jSm_tr rfl Sm S7
        show jX m_X2_readTest 18 0 0 41 [(0, .ref 95), (1, .int 3), (2, .int l2), (3, .int l3), (4, .int l4), (5, .int l5)] [] _ 0 0 _
        refine x_aloadn (x := 95) rfl rfl ?_
        refine z_getR (N := 6) (b := 68) 2 0 rfl f_2_30 rfl J rfl 12160 ⟨rfl, rfl⟩ rfl ?_
        refine x_ldcS (jstr.getD 11 jstr_0) rfl (List.mem_of_getElem? (i := 11) rfl) rfl rfl ?_
        show jX m_X2_readTest 18 0 0 47 [(0, .ref 95), (1, .int 3), (2, .int l2), (3, .int l3), (4, .int l4), (5, .int l5)] [.ref 16, .ref 68] _ 0 0 _
        refine x_inv (N := m_X9_wordOf) (As := [.ref 16]) (b := 68) (st := []) (dx9 := 4) (mc := 0) (ms := 0) (host := "") 9 rfl t_X9_wordOf ⟨Or.inl q_2_67, i_X9_wordOf.1, i_X9_wordOf.2⟩ ⟨by decide, rfl⟩ (congrArg Prod.fst (J.1.1 68 (9, 6) rfl)) rfl (by decide) rfl rfl ⟨by decide, by decide⟩ (sf_X9_wordOf_r68_r16  hD J  (fun v9 h J S8 => ?_))
        have ev9 := jfull v9
        have Sm := jSm_tr rfl Sm S8
        show jX m_X2_readTest 18 0 0 50 [(0, .ref 95), (1, .int 3), (2, .int l2), (3, .int l3), (4, .int l4), (5, .int l5)] [.int v9] _ 0 0 _
        refine x_ifeq (tgt := 56) rfl rfl (ti_eq rfl jk_0 ⟨fun c10 => ?_, fun c10 => ?_⟩)
        ·
          refine x_aloadn (x := 95) rfl rfl ?_
          refine x_bipush (v := 12) rfl kb_12 ?_
          refine x_inv (N := m_X2_leap) (As := [.int 12]) (b := 95) (st := []) (dx9 := 2) (mc := 0) (ms := 0) (host := "") 2 rfl t_X2_leap ⟨Or.inl q_2_129, i_X2_leap.1, i_X2_leap.2⟩ ⟨by decide, rfl⟩ (congrArg Prod.fst (J.1.1 95 (2, 6) rfl)) rfl (by decide) rfl rfl ⟨by decide, by decide⟩ (sf_X2_leap_r95 (jr_of jk_12 (by omega)) hD J  (fun v12 h ev12 J S11 => ?_))
          have Sm := jSm_tr rfl Sm S11
          show jX m_X2_readTest 18 0 0 62 [(0, .ref 95), (1, .int 3), (2, .int l2), (3, .int l3), (4, .int l4), (5, .int l5)] [.int v12] _ 0 0 _
          refine x_istore (lsx9 := [(4, .int v12), (0, .ref 95), (1, .int 3), (2, .int l2), (3, .int l3), (5, .int l5)]) rfl rfl rfl ?_
          refine x_aloadn (x := 95) rfl rfl ?_
          refine z_getR (N := 6) (b := 68) 2 0 rfl f_2_30 rfl J rfl 12160 ⟨rfl, rfl⟩ rfl ?_
          refine x_inv (N := m_X9_step) (As := []) (b := 68) (st := []) (dx9 := 2) (mc := 0) (ms := 0) (host := "") 9 rfl t_X9_step ⟨Or.inl q_2_62, i_X9_step.1, i_X9_step.2⟩ ⟨by decide, rfl⟩ (congrArg Prod.fst (J.1.1 68 (9, 6) rfl)) rfl (by decide) rfl rfl ⟨by decide, by decide⟩ (sf_X9_step_r68  hD J (jmc S11 rfl (jmc S8 rfl (jmc S7 rfl qu3))) (jmc S11 rfl (jmc S8 rfl (jmc S7 rfl qu4))) (by omega)  (fun h J S13 u14 u15 qu14 qu15 ru14 => ?_))
          have Sm := jSm_tr rfl Sm S13
          have eu14 := (show 0 ≤ u14.toInt ∧ u14.toInt ≤ 3 from qu14 ▸ jrg_f J sg_68_5_6_1_0_1)
          have eu15 := (show 0 ≤ u15.toInt ∧ u15.toInt ≤ 400 from qu15 ▸ jrg_f J sg_68_3_4_1_0_1)
          show jX m_X2_readTest 18 0 0 71 [(4, .int v12), (0, .ref 95), (1, .int 3), (2, .int l2), (3, .int l3), (5, .int l5)] [] _ 0 0 _
          refine z_iinc (x := l5) (lsx9 := fun v16 => [(5, .int v16), (4, .int v12), (0, .ref 95), (1, .int 3), (2, .int l2), (3, .int l3)]) rfl rfl rfl jko_1 (by omega) rfl (fun _ => rfl) (fun v16 ev16 => ?_)
          refine x_goto (tgt := 17) rfl rfl ?_
          exact jX.sub (jsb_c rfl (jsb_c rfl (jsb_c rfl (jsb_c rfl (jsb_c rfl (jsb_c rfl jsb_n)))))) (ih l2 l3 v12 v16 u15 u14 h (by omega) (jr_of rfl (by omega)) (jr_of rfl (by omega)) (jr_of rfl (by omega)) (jr_of rfl (by omega)) (jr_of rfl (by omega)) (jr_of rfl (by omega)) (by omega) qu15 qu14 (by omega) J Sm)
        ·
          refine x_goto (tgt := 77) rfl rfl ?_
          exact jX.sub (jsb_c rfl (jsb_c rfl (jsb_c rfl (jsb_c rfl jsb_n)))) (ct_X2_readTest_r95_c3_77 hD hQ k4 l2 l3 u4 u3 h (jr_of rfl (by omega)) (jr_of rfl (by omega)) (jr_of rfl (by omega)) (jr_of rfl (by omega)) (by omega) (jmc S8 rfl (jmc S7 rfl qu4)) (jmc S8 rfl (jmc S7 rfl qu3)) (by omega) J Sm)
      ·
        refine x_iconst (v := 0) rfl ki_0 ?_
        refine x_zret rfl rfl (by decide) ?_
        exact hQ _ _ (jr_of jk_0 (by omega)) J Sm _ _ qu3 qu4 (by omega)
set_option maxRecDepth 100000 in
set_option maxHeartbeats 4000000 in
theorem ct_X2_readTest_r95_c3_4 {Dy : jH → Prop} {h0 : jH} {Q : Option Value → jH → Prop} (hD : jDk Dy) (hQ : ∀ (v : Int32) hx9, 0 ≤ v.toInt ∧ v.toInt ≤ 1 → jJ jSgX Dy hx9 → jSm fp_X2_readTest_r95_c3 h0 hx9 → ∀ u0 u1 : Int32, jiv hx9 68 5 = u0 → jiv hx9 68 3 = u1 → (u0.toInt ≠ 3 ∨ u1.toInt ≤ 399) → Q (some (.int v)) hx9) : ∀ r : Nat, ∀ (l2 : Int32) (l3 : Int32) (g0 : Int32) (g1 : Int32) (h : jH), 400 - l3.toInt < (r : Int) → (-1) ≤ l2.toInt ∧ l2.toInt ≤ 1199 → 0 ≤ l3.toInt ∧ l3.toInt ≤ 400 → 0 ≤ g0.toInt ∧ g0.toInt ≤ 400 → 0 ≤ g1.toInt ∧ g1.toInt ≤ 3 → (g1.toInt ≠ 3 ∨ g0.toInt ≤ 399) → jiv h 68 3 = g0 → jiv h 68 5 = g1 → jJ jSgX Dy h → jSm fp_X2_readTest_r95_c3 h0 h → jX m_X2_readTest 18 0 0 4 [(0, .ref 95), (1, .int 3), (2, .int l2), (3, .int l3)] [] h 0 0 Q := by
  intro r
  induction r with
  | zero =>
    intro l2 l3 g0 g1 h hm y0 y1 y2 y3 y4 z0 z1  J Sm
    exfalso
    omega
  | succ r ih =>
    intro l2 l3 g0 g1 h hm y0 y1 y2 y3 y4 z0 z1  J Sm
    refine x_iloadn (x := l3) rfl rfl ?_
    refine x_sipush (v := 400) rfl ks_400 ?_
    refine x_icge (tgt := 116) rfl rfl (ti_ge rfl jk_400 ⟨fun c1 => ?_, fun c1 => ?_⟩)
    ·
      refine x_aloadn (x := 95) rfl rfl ?_
      refine z_getR (N := 6) (b := 68) 2 0 rfl f_2_30 rfl J rfl 12160 ⟨rfl, rfl⟩ rfl ?_
      refine x_inv (N := m_X9_blame) (As := []) (b := 68) (st := []) (dx9 := 17) (mc := 0) (ms := 0) (host := "") 9 rfl t_X9_blame ⟨Or.inl q_2_59, i_X9_blame.1, i_X9_blame.2⟩ ⟨by decide, rfl⟩ (congrArg Prod.fst (J.1.1 68 (9, 6) rfl)) rfl (by decide) rfl rfl ⟨by decide, by decide⟩ (jC.of rfl k_X9_blame rfl ?_)
      show jX m_X9_blame 17 0 0 0 [(0, .ref 68)] [] _ 0 0 _
      refine x_aloadn (x := 68) rfl rfl ?_
      refine x_aloadn (x := 68) rfl rfl ?_
      refine z_getM (N := 6) (v := g0) 9 3 rfl f_9_22 rfl J rfl z0 ?_
      refine z_putI (N := 6) (w := g0.toInt) 9 2 rfl f_9_19 rfl (jfin_no TX9 RX9 6 rfl rfl) hD J Sm rfl rfl rfl (pw_68_2 (by omega)) rfl (fun h w2 J Sm => ?_)
      refine x_iconst (v := 0) rfl ki_0 ?_
      refine x_zret rfl rfl (by decide) ?_
      show jX m_X2_readTest 18 0 0 123 [(0, .ref 95), (1, .int 3), (2, .int l2), (3, .int l3)] [.int 0] _ 0 0 _
      refine x_zret rfl rfl (by decide) ?_
      exact hQ _ _ (jr_of jk_0 (by omega)) J Sm _ _ (jmo w2 rfl z1) (jmo w2 rfl z0) (by omega)
    ·
      refine x_iconst (v := (-1)) rfl ki_m1 ?_
      refine x_istore (lsx9 := [(4, .int (-1)), (0, .ref 95), (1, .int 3), (2, .int l2), (3, .int l3)]) rfl rfl rfl ?_
      refine x_iconst (v := 0) rfl ki_0 ?_
      refine x_istore (lsx9 := [(5, .int 0), (4, .int (-1)), (0, .ref 95), (1, .int 3), (2, .int l2), (3, .int l3)]) rfl rfl rfl ?_
      exact jX.sub (jsb_c rfl (jsb_c rfl (jsb_c rfl (jsb_c rfl (jsb_c rfl (jsb_c rfl jsb_n)))))) (ct_X2_readTest_r95_c3_17 hD hQ ih 401 l2 l3 (-1) 0 g0 g1 h (by have := jk_0; omega) (jr_of rfl (by omega)) (jr_of rfl (by omega)) (jr_of jk_m1 (by omega)) (jr_of jk_0 (by omega)) (jr_of rfl (by omega)) (jr_of rfl (by omega)) (by omega) z0 z1 (by omega) J Sm)
set_option maxRecDepth 100000 in
set_option maxHeartbeats 4000000 in
theorem sf_X2_readTest_r95_c3 {Dy : jH → Prop} {h : jH} {Q : Option Value → jH → Prop} (hD : jDk Dy) (J : jJ jSgX Dy h) {p0 p1 : Int32} (zp0 : jiv h 68 5 = p0) (zp1 : jiv h 68 3 = p1) (rl_p0 : (p0.toInt ≠ 3 ∨ p1.toInt ≤ 399)) (hQ : ∀ (v : Int32) hx9, 0 ≤ v.toInt ∧ v.toInt ≤ 1 → jJ jSgX Dy hx9 → jSm fp_X2_readTest_r95_c3 h hx9 → ∀ u0 u1 : Int32, jiv hx9 68 5 = u0 → jiv hx9 68 3 = u1 → (u0.toInt ≠ 3 ∨ u1.toInt ≤ 399) → Q (some (.int v)) hx9) : jC m_X2_readTest 18 0 0 [.ref 95, .int 3] h Q := by
  refine jC.of rfl k_X2_readTest rfl ?_
  have Sm := jSm_rf fp_X2_readTest_r95_c3 h
  have ep0 := (show 0 ≤ p0.toInt ∧ p0.toInt ≤ 3 from zp0 ▸ jrg_f J sg_68_5_6_1_0_1)
  have ep1 := (show 0 ≤ p1.toInt ∧ p1.toInt ≤ 400 from zp1 ▸ jrg_f J sg_68_3_4_1_0_1)
  show jX m_X2_readTest 18 0 0 0 [(0, .ref 95), (1, .int 3)] [] _ 0 0 _
  refine x_iconst (v := (-1)) rfl ki_m1 ?_
  refine x_istoren (lsx9 := [(2, .int (-1)), (0, .ref 95), (1, .int 3)]) rfl rfl rfl ?_
  refine x_iconst (v := 0) rfl ki_0 ?_
  refine x_istoren (lsx9 := [(3, .int 0), (2, .int (-1)), (0, .ref 95), (1, .int 3)]) rfl rfl rfl ?_
  exact jX.sub (jsb_c rfl (jsb_c rfl (jsb_c rfl (jsb_c rfl jsb_n)))) (ct_X2_readTest_r95_c3_4 hD hQ  401 (-1) 0 p1 p0 h (by have := jk_0; omega) (jr_of jk_m1 (by omega)) (jr_of jk_0 (by omega)) (jr_of rfl (by omega)) (jr_of rfl (by omega)) (by omega) zp1 zp0 J Sm)
def fp_X2_readPlain_r95_c2 : jFp := [(68, 2, 3), (68, 3, 4), (68, 4, 5), (68, 5, 6), (95, 4, 5), (95, 5, 6), (97, 0, 1200)]
set_option maxRecDepth 100000 in
set_option maxHeartbeats 4000000 in
theorem ct_X2_readPlain_r95_c2_239 {Dy : jH → Prop} {h0 : jH} {Q : Option Value → jH → Prop} (hD : jDk Dy) (hQ : ∀ (v : Int32) hx9, 0 ≤ v.toInt ∧ v.toInt ≤ 1 → jJ jSgX Dy hx9 → jSm fp_X2_readPlain_r95_c2 h0 hx9 → ∀ u0 u1 : Int32, jiv hx9 68 5 = u0 → jiv hx9 68 3 = u1 → (u0.toInt ≠ 3 ∨ u1.toInt ≤ 399) → Q (some (.int v)) hx9) : ∀ (g0 : Int32) (g1 : Int32) (h : jH), 0 ≤ g0.toInt ∧ g0.toInt ≤ 400 → 0 ≤ g1.toInt ∧ g1.toInt ≤ 3 → (g1.toInt ≠ 3 ∨ g0.toInt ≤ 399) → jiv h 68 3 = g0 → jiv h 68 5 = g1 → jJ jSgX Dy h → jSm fp_X2_readPlain_r95_c2 h0 h → jX m_X2_readPlain 19 0 0 239 [] [] h 0 0 Q := by
  intro g0 g1 h y0 y1 y2 z0 z1  J Sm
  refine x_iconst (v := 1) rfl ki_1 ?_
  refine x_zret rfl rfl (by decide) ?_
  exact hQ _ _ (jr_of jk_1 (by omega)) J Sm _ _ z1 z0 (by omega)
set_option maxRecDepth 100000 in
set_option maxHeartbeats 4000000 in
theorem ct_X2_readPlain_r95_c2_229 {Dy : jH → Prop} {h0 : jH} {Q : Option Value → jH → Prop} (hD : jDk Dy) (hQ : ∀ (v : Int32) hx9, 0 ≤ v.toInt ∧ v.toInt ≤ 1 → jJ jSgX Dy hx9 → jSm fp_X2_readPlain_r95_c2 h0 hx9 → ∀ u0 u1 : Int32, jiv hx9 68 5 = u0 → jiv hx9 68 3 = u1 → (u0.toInt ≠ 3 ∨ u1.toInt ≤ 399) → Q (some (.int v)) hx9) : ∀ (l2 : Int32) (g0 : Int32) (g1 : Int32) (h : jH), 0 ≤ l2.toInt ∧ l2.toInt ≤ 1 → 0 ≤ g0.toInt ∧ g0.toInt ≤ 400 → 0 ≤ g1.toInt ∧ g1.toInt ≤ 3 → (g1.toInt ≠ 3 ∨ g0.toInt ≤ 399) → jiv h 68 3 = g0 → jiv h 68 5 = g1 → jJ jSgX Dy h → jSm fp_X2_readPlain_r95_c2 h0 h → jX m_X2_readPlain 19 0 0 229 [(0, .ref 95), (2, .int l2)] [] h 0 0 Q := by
  intro l2 g0 g1 h y0 y1 y2 y3 z0 z1  J Sm
  refine x_iloadn (x := l2) rfl rfl ?_
  refine x_ifeq (tgt := 239) rfl rfl (ti_eq rfl jk_0 ⟨fun c1 => ?_, fun c1 => ?_⟩)
  ·
    exact jX.sub jsb_n (ct_X2_readPlain_r95_c2_239 hD hQ  g0 g1 h (jr_of rfl (by omega)) (jr_of rfl (by omega)) (by omega) z0 z1 J Sm)
  ·
    refine x_aloadn (x := 95) rfl rfl ?_
    refine x_bipush (v := 10) rfl kb_10 ?_
    refine x_inv (N := m_X2_emit) (As := [.int 10]) (b := 95) (st := []) (dx9 := 1) (mc := 0) (ms := 0) (host := "") 2 rfl t_X2_emit ⟨Or.inl q_2_89, i_X2_emit.1, i_X2_emit.2⟩ ⟨by decide, rfl⟩ (congrArg Prod.fst (J.1.1 95 (2, 6) rfl)) rfl (by decide) rfl rfl ⟨by decide, by decide⟩ (sf_X2_emit_r95  hD J  (fun h J S2 => ?_))
    have Sm := jSm_tr rfl Sm S2
    show jX m_X2_readPlain 19 0 0 239 [(0, .ref 95), (2, .int l2)] [] _ 0 0 _
    exact jX.sub jsb_n (ct_X2_readPlain_r95_c2_239 hD hQ  g0 g1 h (jr_of rfl (by omega)) (jr_of rfl (by omega)) (by omega) (jmc S2 rfl z0) (jmc S2 rfl z1) J Sm)
set_option maxRecDepth 100000 in
set_option maxHeartbeats 4000000 in
theorem ct_X2_readPlain_r95_c2_100190 {Dy : jH → Prop} {h0 : jH} {Q : Option Value → jH → Prop} (hD : jDk Dy) (hQ : ∀ (v : Int32) hx9, 0 ≤ v.toInt ∧ v.toInt ≤ 1 → jJ jSgX Dy hx9 → jSm fp_X2_readPlain_r95_c2 h0 hx9 → ∀ u0 u1 : Int32, jiv hx9 68 5 = u0 → jiv hx9 68 3 = u1 → (u0.toInt ≠ 3 ∨ u1.toInt ≤ 399) → Q (some (.int v)) hx9) : ∀ (l2 : Int32) (g0 : Int32) (g1 : Int32) (h : jH), 0 ≤ l2.toInt ∧ l2.toInt ≤ 1 → 0 ≤ g0.toInt ∧ g0.toInt ≤ 400 → 0 ≤ g1.toInt ∧ g1.toInt ≤ 3 → (g1.toInt ≠ 3 ∨ g0.toInt ≤ 399) → jiv h 68 3 = g0 → jiv h 68 5 = g1 → jJ jSgX Dy h → jSm fp_X2_readPlain_r95_c2 h0 h → jX m_X2_readPlain 19 0 0 190 [(0, .ref 95), (1, .int 2), (2, .int l2)] [.int (-1)] h 0 0 Q := by
  intro l2 g0 g1 h y0 y1 y2 y3 z0 z1  J Sm
  refine x_istore (lsx9 := [(4, .int (-1)), (0, .ref 95), (1, .int 2), (2, .int l2)]) rfl rfl rfl ?_
  refine x_iload (x := (-1)) rfl rfl ?_
  refine x_iconst (v := (-1)) rfl ki_m1 ?_
  refine x_icne (tgt := 206) rfl rfl (ti_ne jk_m1 jk_m1 (bn_f (by omega) ?_))
  refine x_aloadn (x := 95) rfl rfl ?_
  refine z_getR (N := 6) (b := 68) 2 0 rfl f_2_30 rfl J rfl 12160 ⟨rfl, rfl⟩ rfl ?_
  refine x_inv (N := m_X9_blame) (As := []) (b := 68) (st := []) (dx9 := 18) (mc := 0) (ms := 0) (host := "") 9 rfl t_X9_blame ⟨Or.inl q_2_59, i_X9_blame.1, i_X9_blame.2⟩ ⟨by decide, rfl⟩ (congrArg Prod.fst (J.1.1 68 (9, 6) rfl)) rfl (by decide) rfl rfl ⟨by decide, by decide⟩ (jC.of rfl k_X9_blame rfl ?_)
  show jX m_X9_blame 18 0 0 0 [(0, .ref 68)] [] _ 0 0 _
  refine x_aloadn (x := 68) rfl rfl ?_
  refine x_aloadn (x := 68) rfl rfl ?_
  refine z_getM (N := 6) (v := g0) 9 3 rfl f_9_22 rfl J rfl z0 ?_
  refine z_putI (N := 6) (w := g0.toInt) 9 2 rfl f_9_19 rfl (jfin_no TX9 RX9 6 rfl rfl) hD J Sm rfl rfl rfl (pw_68_2 (by omega)) rfl (fun h w1 J Sm => ?_)
  refine x_iconst (v := 0) rfl ki_0 ?_
  refine x_zret rfl rfl (by decide) ?_
  show jX m_X2_readPlain 19 0 0 205 [(4, .int (-1)), (0, .ref 95), (1, .int 2), (2, .int l2)] [.int 0] _ 0 0 _
  refine x_zret rfl rfl (by decide) ?_
  exact hQ _ _ (jr_of jk_0 (by omega)) J Sm _ _ (jmo w1 rfl z1) (jmo w1 rfl z0) (by omega)
set_option maxRecDepth 100000 in
set_option maxHeartbeats 4000000 in
theorem ct_X2_readPlain_r95_c2_190 {Dy : jH → Prop} {h0 : jH} {Q : Option Value → jH → Prop} (hD : jDk Dy) (hQ : ∀ (v : Int32) hx9, 0 ≤ v.toInt ∧ v.toInt ≤ 1 → jJ jSgX Dy hx9 → jSm fp_X2_readPlain_r95_c2 h0 hx9 → ∀ u0 u1 : Int32, jiv hx9 68 5 = u0 → jiv hx9 68 3 = u1 → (u0.toInt ≠ 3 ∨ u1.toInt ≤ 399) → Q (some (.int v)) hx9) : ∀ (l2 : Int32) (g0 : Int32) (g1 : Int32) (h : jH), 0 ≤ l2.toInt ∧ l2.toInt ≤ 1 → 0 ≤ g0.toInt ∧ g0.toInt ≤ 400 → 0 ≤ g1.toInt ∧ g1.toInt ≤ 3 → (g1.toInt ≠ 3 ∨ g0.toInt ≤ 399) → jiv h 68 3 = g0 → jiv h 68 5 = g1 → jJ jSgX Dy h → jSm fp_X2_readPlain_r95_c2 h0 h → jX m_X2_readPlain 19 0 0 190 [(0, .ref 95), (1, .int 2), (2, .int l2)] [.int 9] h 0 0 Q := by
  intro l2 g0 g1 h y0 y1 y2 y3 z0 z1  J Sm
  refine x_istore (lsx9 := [(4, .int 9), (0, .ref 95), (1, .int 2), (2, .int l2)]) rfl rfl rfl ?_
  refine x_iload (x := 9) rfl rfl ?_
  refine x_iconst (v := (-1)) rfl ki_m1 ?_
  refine x_icne (tgt := 206) rfl rfl (ti_ne jk_9 jk_m1 (bn_t (by omega) ?_))
  refine x_aloadn (x := 95) rfl rfl ?_
  refine z_getR (N := 6) (b := 68) 2 0 rfl f_2_30 rfl J rfl 12160 ⟨rfl, rfl⟩ rfl ?_
  refine x_inv (N := m_X9_step) (As := []) (b := 68) (st := []) (dx9 := 2) (mc := 0) (ms := 0) (host := "") 9 rfl t_X9_step ⟨Or.inl q_2_62, i_X9_step.1, i_X9_step.2⟩ ⟨by decide, rfl⟩ (congrArg Prod.fst (J.1.1 68 (9, 6) rfl)) rfl (by decide) rfl rfl ⟨by decide, by decide⟩ (sf_X9_step_r68  hD J z1 z0 (by omega)  (fun h J S1 u2 u3 qu2 qu3 ru2 => ?_))
  have Sm := jSm_tr rfl Sm S1
  have eu2 := (show 0 ≤ u2.toInt ∧ u2.toInt ≤ 3 from qu2 ▸ jrg_f J sg_68_5_6_1_0_1)
  have eu3 := (show 0 ≤ u3.toInt ∧ u3.toInt ≤ 400 from qu3 ▸ jrg_f J sg_68_3_4_1_0_1)
  show jX m_X2_readPlain 19 0 0 213 [(4, .int 9), (0, .ref 95), (1, .int 2), (2, .int l2)] [] _ 0 0 _
  refine x_aloadn (x := 95) rfl rfl ?_
  refine x_iloadn (x := 2) rfl rfl ?_
  refine x_inv (N := m_X2_readSum) (As := [.int 2]) (b := 95) (st := []) (dx9 := 18) (mc := 0) (ms := 0) (host := "") 2 rfl t_X2_readSum ⟨Or.inl q_2_86, i_X2_readSum.1, i_X2_readSum.2⟩ ⟨by decide, rfl⟩ (congrArg Prod.fst (J.1.1 95 (2, 6) rfl)) rfl (by decide) rfl rfl ⟨by decide, by decide⟩ (sf_X2_readSum_r95_c2  hD J qu2 qu3 (by omega)  (fun v7 h ev7 J S4 u5 u6 qu5 qu6 ru5 => ?_))
  have Sm := jSm_tr rfl Sm S4
  have eu5 := (show 0 ≤ u5.toInt ∧ u5.toInt ≤ 3 from qu5 ▸ jrg_f J sg_68_5_6_1_0_1)
  have eu6 := (show 0 ≤ u6.toInt ∧ u6.toInt ≤ 400 from qu6 ▸ jrg_f J sg_68_3_4_1_0_1)
  show jX m_X2_readPlain 19 0 0 218 [(4, .int 9), (0, .ref 95), (1, .int 2), (2, .int l2)] [.int v7] _ 0 0 _
  refine x_ifne (tgt := 223) rfl rfl (ti_ne rfl jk_0 ⟨fun c8 => ?_, fun c8 => ?_⟩)
  ·
    refine x_aloadn (x := 95) rfl rfl ?_
    refine x_iload (x := 9) rfl rfl ?_
    refine x_inv (N := m_X2_emit) (As := [.int 9]) (b := 95) (st := []) (dx9 := 1) (mc := 0) (ms := 0) (host := "") 2 rfl t_X2_emit ⟨Or.inl q_2_89, i_X2_emit.1, i_X2_emit.2⟩ ⟨by decide, rfl⟩ (congrArg Prod.fst (J.1.1 95 (2, 6) rfl)) rfl (by decide) rfl rfl ⟨by decide, by decide⟩ (sf_X2_emit_r95  hD J  (fun h J S9 => ?_))
    have Sm := jSm_tr rfl Sm S9
    show jX m_X2_readPlain 19 0 0 229 [(4, .int 9), (0, .ref 95), (1, .int 2), (2, .int l2)] [] _ 0 0 _
    exact jX.sub (jsb_c rfl (jsb_c rfl jsb_n)) (ct_X2_readPlain_r95_c2_229 hD hQ  l2 u6 u5 h (jr_of rfl (by omega)) (jr_of rfl (by omega)) (jr_of rfl (by omega)) (by omega) (jmc S9 rfl qu6) (jmc S9 rfl qu5) J Sm)
  ·
    refine x_iconst (v := 0) rfl ki_0 ?_
    refine x_zret rfl rfl (by decide) ?_
    exact hQ _ _ (jr_of jk_0 (by omega)) J Sm _ _ qu5 qu6 (by omega)
set_option maxRecDepth 100000 in
set_option maxHeartbeats 4000000 in
theorem ct_X2_readPlain_r95_c2_1000190 {Dy : jH → Prop} {h0 : jH} {Q : Option Value → jH → Prop} (hD : jDk Dy) (hQ : ∀ (v : Int32) hx9, 0 ≤ v.toInt ∧ v.toInt ≤ 1 → jJ jSgX Dy hx9 → jSm fp_X2_readPlain_r95_c2 h0 hx9 → ∀ u0 u1 : Int32, jiv hx9 68 5 = u0 → jiv hx9 68 3 = u1 → (u0.toInt ≠ 3 ∨ u1.toInt ≤ 399) → Q (some (.int v)) hx9) : ∀ (l2 : Int32) (g0 : Int32) (g1 : Int32) (h : jH), 0 ≤ l2.toInt ∧ l2.toInt ≤ 1 → 0 ≤ g0.toInt ∧ g0.toInt ≤ 400 → 0 ≤ g1.toInt ∧ g1.toInt ≤ 3 → (g1.toInt ≠ 3 ∨ g0.toInt ≤ 399) → jiv h 68 3 = g0 → jiv h 68 5 = g1 → jJ jSgX Dy h → jSm fp_X2_readPlain_r95_c2 h0 h → jX m_X2_readPlain 19 0 0 190 [(0, .ref 95), (1, .int 2), (2, .int l2)] [.int 8] h 0 0 Q := by
  intro l2 g0 g1 h y0 y1 y2 y3 z0 z1  J Sm
  refine x_istore (lsx9 := [(4, .int 8), (0, .ref 95), (1, .int 2), (2, .int l2)]) rfl rfl rfl ?_
  refine x_iload (x := 8) rfl rfl ?_
  refine x_iconst (v := (-1)) rfl ki_m1 ?_
  refine x_icne (tgt := 206) rfl rfl (ti_ne jk_8 jk_m1 (bn_t (by omega) ?_))
  refine x_aloadn (x := 95) rfl rfl ?_
  refine z_getR (N := 6) (b := 68) 2 0 rfl f_2_30 rfl J rfl 12160 ⟨rfl, rfl⟩ rfl ?_
  refine x_inv (N := m_X9_step) (As := []) (b := 68) (st := []) (dx9 := 2) (mc := 0) (ms := 0) (host := "") 9 rfl t_X9_step ⟨Or.inl q_2_62, i_X9_step.1, i_X9_step.2⟩ ⟨by decide, rfl⟩ (congrArg Prod.fst (J.1.1 68 (9, 6) rfl)) rfl (by decide) rfl rfl ⟨by decide, by decide⟩ (sf_X9_step_r68  hD J z1 z0 (by omega)  (fun h J S1 u2 u3 qu2 qu3 ru2 => ?_))
  have Sm := jSm_tr rfl Sm S1
  have eu2 := (show 0 ≤ u2.toInt ∧ u2.toInt ≤ 3 from qu2 ▸ jrg_f J sg_68_5_6_1_0_1)
  have eu3 := (show 0 ≤ u3.toInt ∧ u3.toInt ≤ 400 from qu3 ▸ jrg_f J sg_68_3_4_1_0_1)
  show jX m_X2_readPlain 19 0 0 213 [(4, .int 8), (0, .ref 95), (1, .int 2), (2, .int l2)] [] _ 0 0 _
  refine x_aloadn (x := 95) rfl rfl ?_
  refine x_iloadn (x := 2) rfl rfl ?_
  refine x_inv (N := m_X2_readSum) (As := [.int 2]) (b := 95) (st := []) (dx9 := 18) (mc := 0) (ms := 0) (host := "") 2 rfl t_X2_readSum ⟨Or.inl q_2_86, i_X2_readSum.1, i_X2_readSum.2⟩ ⟨by decide, rfl⟩ (congrArg Prod.fst (J.1.1 95 (2, 6) rfl)) rfl (by decide) rfl rfl ⟨by decide, by decide⟩ (sf_X2_readSum_r95_c2  hD J qu2 qu3 (by omega)  (fun v7 h ev7 J S4 u5 u6 qu5 qu6 ru5 => ?_))
  have Sm := jSm_tr rfl Sm S4
  have eu5 := (show 0 ≤ u5.toInt ∧ u5.toInt ≤ 3 from qu5 ▸ jrg_f J sg_68_5_6_1_0_1)
  have eu6 := (show 0 ≤ u6.toInt ∧ u6.toInt ≤ 400 from qu6 ▸ jrg_f J sg_68_3_4_1_0_1)
  show jX m_X2_readPlain 19 0 0 218 [(4, .int 8), (0, .ref 95), (1, .int 2), (2, .int l2)] [.int v7] _ 0 0 _
  refine x_ifne (tgt := 223) rfl rfl (ti_ne rfl jk_0 ⟨fun c8 => ?_, fun c8 => ?_⟩)
  ·
    refine x_aloadn (x := 95) rfl rfl ?_
    refine x_iload (x := 8) rfl rfl ?_
    refine x_inv (N := m_X2_emit) (As := [.int 8]) (b := 95) (st := []) (dx9 := 1) (mc := 0) (ms := 0) (host := "") 2 rfl t_X2_emit ⟨Or.inl q_2_89, i_X2_emit.1, i_X2_emit.2⟩ ⟨by decide, rfl⟩ (congrArg Prod.fst (J.1.1 95 (2, 6) rfl)) rfl (by decide) rfl rfl ⟨by decide, by decide⟩ (sf_X2_emit_r95  hD J  (fun h J S9 => ?_))
    have Sm := jSm_tr rfl Sm S9
    show jX m_X2_readPlain 19 0 0 229 [(4, .int 8), (0, .ref 95), (1, .int 2), (2, .int l2)] [] _ 0 0 _
    exact jX.sub (jsb_c rfl (jsb_c rfl jsb_n)) (ct_X2_readPlain_r95_c2_229 hD hQ  l2 u6 u5 h (jr_of rfl (by omega)) (jr_of rfl (by omega)) (jr_of rfl (by omega)) (by omega) (jmc S9 rfl qu6) (jmc S9 rfl qu5) J Sm)
  ·
    refine x_iconst (v := 0) rfl ki_0 ?_
    refine x_zret rfl rfl (by decide) ?_
    exact hQ _ _ (jr_of jk_0 (by omega)) J Sm _ _ qu5 qu6 (by omega)
set_option maxRecDepth 100000 in
set_option maxHeartbeats 4000000 in
theorem ct_X2_readPlain_r95_c2_900190 {Dy : jH → Prop} {h0 : jH} {Q : Option Value → jH → Prop} (hD : jDk Dy) (hQ : ∀ (v : Int32) hx9, 0 ≤ v.toInt ∧ v.toInt ≤ 1 → jJ jSgX Dy hx9 → jSm fp_X2_readPlain_r95_c2 h0 hx9 → ∀ u0 u1 : Int32, jiv hx9 68 5 = u0 → jiv hx9 68 3 = u1 → (u0.toInt ≠ 3 ∨ u1.toInt ≤ 399) → Q (some (.int v)) hx9) : ∀ (l2 : Int32) (g0 : Int32) (g1 : Int32) (h : jH), 0 ≤ l2.toInt ∧ l2.toInt ≤ 1 → 0 ≤ g0.toInt ∧ g0.toInt ≤ 400 → 0 ≤ g1.toInt ∧ g1.toInt ≤ 3 → (g1.toInt ≠ 3 ∨ g0.toInt ≤ 399) → jiv h 68 3 = g0 → jiv h 68 5 = g1 → jJ jSgX Dy h → jSm fp_X2_readPlain_r95_c2 h0 h → jX m_X2_readPlain 19 0 0 190 [(0, .ref 95), (1, .int 2), (2, .int l2)] [.int 7] h 0 0 Q := by
  intro l2 g0 g1 h y0 y1 y2 y3 z0 z1  J Sm
  refine x_istore (lsx9 := [(4, .int 7), (0, .ref 95), (1, .int 2), (2, .int l2)]) rfl rfl rfl ?_
  refine x_iload (x := 7) rfl rfl ?_
  refine x_iconst (v := (-1)) rfl ki_m1 ?_
  refine x_icne (tgt := 206) rfl rfl (ti_ne jk_7 jk_m1 (bn_t (by omega) ?_))
  refine x_aloadn (x := 95) rfl rfl ?_
  refine z_getR (N := 6) (b := 68) 2 0 rfl f_2_30 rfl J rfl 12160 ⟨rfl, rfl⟩ rfl ?_
  refine x_inv (N := m_X9_step) (As := []) (b := 68) (st := []) (dx9 := 2) (mc := 0) (ms := 0) (host := "") 9 rfl t_X9_step ⟨Or.inl q_2_62, i_X9_step.1, i_X9_step.2⟩ ⟨by decide, rfl⟩ (congrArg Prod.fst (J.1.1 68 (9, 6) rfl)) rfl (by decide) rfl rfl ⟨by decide, by decide⟩ (sf_X9_step_r68  hD J z1 z0 (by omega)  (fun h J S1 u2 u3 qu2 qu3 ru2 => ?_))
  have Sm := jSm_tr rfl Sm S1
  have eu2 := (show 0 ≤ u2.toInt ∧ u2.toInt ≤ 3 from qu2 ▸ jrg_f J sg_68_5_6_1_0_1)
  have eu3 := (show 0 ≤ u3.toInt ∧ u3.toInt ≤ 400 from qu3 ▸ jrg_f J sg_68_3_4_1_0_1)
  show jX m_X2_readPlain 19 0 0 213 [(4, .int 7), (0, .ref 95), (1, .int 2), (2, .int l2)] [] _ 0 0 _
  refine x_aloadn (x := 95) rfl rfl ?_
  refine x_iloadn (x := 2) rfl rfl ?_
  refine x_inv (N := m_X2_readSum) (As := [.int 2]) (b := 95) (st := []) (dx9 := 18) (mc := 0) (ms := 0) (host := "") 2 rfl t_X2_readSum ⟨Or.inl q_2_86, i_X2_readSum.1, i_X2_readSum.2⟩ ⟨by decide, rfl⟩ (congrArg Prod.fst (J.1.1 95 (2, 6) rfl)) rfl (by decide) rfl rfl ⟨by decide, by decide⟩ (sf_X2_readSum_r95_c2  hD J qu2 qu3 (by omega)  (fun v7 h ev7 J S4 u5 u6 qu5 qu6 ru5 => ?_))
  have Sm := jSm_tr rfl Sm S4
  have eu5 := (show 0 ≤ u5.toInt ∧ u5.toInt ≤ 3 from qu5 ▸ jrg_f J sg_68_5_6_1_0_1)
  have eu6 := (show 0 ≤ u6.toInt ∧ u6.toInt ≤ 400 from qu6 ▸ jrg_f J sg_68_3_4_1_0_1)
  show jX m_X2_readPlain 19 0 0 218 [(4, .int 7), (0, .ref 95), (1, .int 2), (2, .int l2)] [.int v7] _ 0 0 _
  refine x_ifne (tgt := 223) rfl rfl (ti_ne rfl jk_0 ⟨fun c8 => ?_, fun c8 => ?_⟩)
  ·
    refine x_aloadn (x := 95) rfl rfl ?_
    refine x_iload (x := 7) rfl rfl ?_
    refine x_inv (N := m_X2_emit) (As := [.int 7]) (b := 95) (st := []) (dx9 := 1) (mc := 0) (ms := 0) (host := "") 2 rfl t_X2_emit ⟨Or.inl q_2_89, i_X2_emit.1, i_X2_emit.2⟩ ⟨by decide, rfl⟩ (congrArg Prod.fst (J.1.1 95 (2, 6) rfl)) rfl (by decide) rfl rfl ⟨by decide, by decide⟩ (sf_X2_emit_r95  hD J  (fun h J S9 => ?_))
    have Sm := jSm_tr rfl Sm S9
    show jX m_X2_readPlain 19 0 0 229 [(4, .int 7), (0, .ref 95), (1, .int 2), (2, .int l2)] [] _ 0 0 _
    exact jX.sub (jsb_c rfl (jsb_c rfl jsb_n)) (ct_X2_readPlain_r95_c2_229 hD hQ  l2 u6 u5 h (jr_of rfl (by omega)) (jr_of rfl (by omega)) (jr_of rfl (by omega)) (by omega) (jmc S9 rfl qu6) (jmc S9 rfl qu5) J Sm)
  ·
    refine x_iconst (v := 0) rfl ki_0 ?_
    refine x_zret rfl rfl (by decide) ?_
    exact hQ _ _ (jr_of jk_0 (by omega)) J Sm _ _ qu5 qu6 (by omega)
set_option maxRecDepth 100000 in
set_option maxHeartbeats 4000000 in
theorem ct_X2_readPlain_r95_c2_108 {Dy : jH → Prop} {h0 : jH} {Q : Option Value → jH → Prop} (hD : jDk Dy) (hQ : ∀ (v : Int32) hx9, 0 ≤ v.toInt ∧ v.toInt ≤ 1 → jJ jSgX Dy hx9 → jSm fp_X2_readPlain_r95_c2 h0 hx9 → ∀ u0 u1 : Int32, jiv hx9 68 5 = u0 → jiv hx9 68 3 = u1 → (u0.toInt ≠ 3 ∨ u1.toInt ≤ 399) → Q (some (.int v)) hx9) : ∀ (g0 : Int32) (g1 : Int32) (h : jH), 0 ≤ g0.toInt ∧ g0.toInt ≤ 400 → 0 ≤ g1.toInt ∧ g1.toInt ≤ 3 → (g1.toInt ≠ 3 ∨ g0.toInt ≤ 399) → jiv h 68 3 = g0 → jiv h 68 5 = g1 → jJ jSgX Dy h → jSm fp_X2_readPlain_r95_c2 h0 h → jX m_X2_readPlain 19 0 0 108 [] [] h 0 0 Q := by
  intro g0 g1 h y0 y1 y2 z0 z1  J Sm
  refine x_iconst (v := 0) rfl ki_0 ?_
  refine x_zret rfl rfl (by decide) ?_
  exact hQ _ _ (jr_of jk_0 (by omega)) J Sm _ _ z1 z0 (by omega)
set_option maxRecDepth 100000 in
set_option maxHeartbeats 4000000 in
theorem ct_X2_readPlain_r95_c2_46 {Dy : jH → Prop} {h0 : jH} {Q : Option Value → jH → Prop} (hD : jDk Dy) (hQ : ∀ (v : Int32) hx9, 0 ≤ v.toInt ∧ v.toInt ≤ 1 → jJ jSgX Dy hx9 → jSm fp_X2_readPlain_r95_c2 h0 hx9 → ∀ u0 u1 : Int32, jiv hx9 68 5 = u0 → jiv hx9 68 3 = u1 → (u0.toInt ≠ 3 ∨ u1.toInt ≤ 399) → Q (some (.int v)) hx9) : ∀ (l2 : Int32) (g0 : Int32) (g1 : Int32) (h : jH), 0 ≤ l2.toInt ∧ l2.toInt ≤ 1 → 0 ≤ g0.toInt ∧ g0.toInt ≤ 400 → 0 ≤ g1.toInt ∧ g1.toInt ≤ 3 → (g1.toInt ≠ 3 ∨ g0.toInt ≤ 399) → jiv h 68 3 = g0 → jiv h 68 5 = g1 → jJ jSgX Dy h → jSm fp_X2_readPlain_r95_c2 h0 h → jX m_X2_readPlain 19 0 0 46 [(0, .ref 95), (1, .int 2), (2, .int l2)] [] h 0 0 Q := by
  intro l2 g0 g1 h y0 y1 y2 y3 z0 z1  J Sm
  refine x_aloadn (x := 95) rfl rfl ?_
  refine z_getR (N := 6) (b := 68) 2 0 rfl f_2_30 rfl J rfl 12160 ⟨rfl, rfl⟩ rfl ?_
  refine x_ldcS (jstr.getD 10 jstr_0) rfl (List.mem_of_getElem? (i := 10) rfl) rfl rfl ?_
  show jX m_X2_readPlain 19 0 0 52 [(0, .ref 95), (1, .int 2), (2, .int l2)] [.ref 15, .ref 68] _ 0 0 _
  refine x_inv (N := m_X9_wordOf) (As := [.ref 15]) (b := 68) (st := []) (dx9 := 4) (mc := 0) (ms := 0) (host := "") 9 rfl t_X9_wordOf ⟨Or.inl q_2_67, i_X9_wordOf.1, i_X9_wordOf.2⟩ ⟨by decide, rfl⟩ (congrArg Prod.fst (J.1.1 68 (9, 6) rfl)) rfl (by decide) rfl rfl ⟨by decide, by decide⟩ (sf_X9_wordOf_r68_r15  hD J  (fun v2 h J S1 => ?_))
  have ev2 := jfull v2
  have Sm := jSm_tr rfl Sm S1
  show jX m_X2_readPlain 19 0 0 55 [(0, .ref 95), (1, .int 2), (2, .int l2)] [.int v2] _ 0 0 _
  refine x_istoren (lsx9 := [(3, .int v2), (0, .ref 95), (1, .int 2), (2, .int l2)]) rfl rfl rfl ?_
  refine x_aloadn (x := 95) rfl rfl ?_
  refine z_getR (N := 6) (b := 68) 2 0 rfl f_2_30 rfl J rfl 12160 ⟨rfl, rfl⟩ rfl ?_
  refine x_bipush (v := 40) rfl kb_40 ?_
  refine x_inv (N := m_X9_isSign) (As := [.int 40]) (b := 68) (st := []) (dx9 := 1) (mc := 0) (ms := 0) (host := "") 9 rfl t_X9_isSign ⟨Or.inl q_2_55, i_X9_isSign.1, i_X9_isSign.2⟩ ⟨by decide, rfl⟩ (congrArg Prod.fst (J.1.1 68 (9, 6) rfl)) rfl (by decide) rfl rfl ⟨by decide, by decide⟩ (sf_X9_isSign_r68 (jr_of jk_40 (by omega)) hD J (jmc S1 rfl z1) (jmc S1 rfl z0) (by omega)  (fun v6 h ev6 J S3 u4 u5 qu4 qu5 ru4 => ?_))
  have Sm := jSm_tr rfl Sm S3
  have eu4 := (show 0 ≤ u4.toInt ∧ u4.toInt ≤ 3 from qu4 ▸ jrg_f J sg_68_5_6_1_0_1)
  have eu5 := (show 0 ≤ u5.toInt ∧ u5.toInt ≤ 400 from qu5 ▸ jrg_f J sg_68_3_4_1_0_1)
  show jX m_X2_readPlain 19 0 0 65 [(3, .int v2), (0, .ref 95), (1, .int 2), (2, .int l2)] [.int v6] _ 0 0 _
  refine x_ifeq (tgt := 110) rfl rfl (ti_eq rfl jk_0 ⟨fun c7 => ?_, fun c7 => ?_⟩)
  ·
    refine x_iloadn (x := v2) rfl rfl ?_
    refine x_iconst (v := (-1)) rfl ki_m1 ?_
    refine x_iceq (tgt := 128) rfl rfl (ti_eq rfl jk_m1 ⟨fun c8 => ?_, fun c8 => ?_⟩)
    ·
      refine x_aloadn (x := 95) rfl rfl ?_
      refine x_iloadn (x := 2) rfl rfl ?_
      refine x_inv (N := m_X2_readSum) (As := [.int 2]) (b := 95) (st := []) (dx9 := 18) (mc := 0) (ms := 0) (host := "") 2 rfl t_X2_readSum ⟨Or.inl q_2_86, i_X2_readSum.1, i_X2_readSum.2⟩ ⟨by decide, rfl⟩ (congrArg Prod.fst (J.1.1 95 (2, 6) rfl)) rfl (by decide) rfl rfl ⟨by decide, by decide⟩ (sf_X2_readSum_r95_c2  hD J qu4 qu5 (by omega)  (fun v12 h ev12 J S9 u10 u11 qu10 qu11 ru10 => ?_))
      have Sm := jSm_tr rfl Sm S9
      have eu10 := (show 0 ≤ u10.toInt ∧ u10.toInt ≤ 3 from qu10 ▸ jrg_f J sg_68_5_6_1_0_1)
      have eu11 := (show 0 ≤ u11.toInt ∧ u11.toInt ≤ 400 from qu11 ▸ jrg_f J sg_68_3_4_1_0_1)
      show jX m_X2_readPlain 19 0 0 133 [(3, .int v2), (0, .ref 95), (1, .int 2), (2, .int l2)] [.int v12] _ 0 0 _
      refine x_ifne (tgt := 138) rfl rfl (ti_ne rfl jk_0 ⟨fun c13 => ?_, fun c13 => ?_⟩)
      ·
        refine x_aloadn (x := 95) rfl rfl ?_
        refine z_getR (N := 6) (b := 68) 2 0 rfl f_2_30 rfl J rfl 12160 ⟨rfl, rfl⟩ rfl ?_
        refine x_bipush (v := 60) rfl kb_60 ?_
        refine x_inv (N := m_X9_isSign) (As := [.int 60]) (b := 68) (st := []) (dx9 := 1) (mc := 0) (ms := 0) (host := "") 9 rfl t_X9_isSign ⟨Or.inl q_2_55, i_X9_isSign.1, i_X9_isSign.2⟩ ⟨by decide, rfl⟩ (congrArg Prod.fst (J.1.1 68 (9, 6) rfl)) rfl (by decide) rfl rfl ⟨by decide, by decide⟩ (sf_X9_isSign_r68 (jr_of jk_60 (by omega)) hD J qu10 qu11 (by omega)  (fun v17 h ev17 J S14 u15 u16 qu15 qu16 ru15 => ?_))
        have Sm := jSm_tr rfl Sm S14
        have eu15 := (show 0 ≤ u15.toInt ∧ u15.toInt ≤ 3 from qu15 ▸ jrg_f J sg_68_5_6_1_0_1)
        have eu16 := (show 0 ≤ u16.toInt ∧ u16.toInt ≤ 400 from qu16 ▸ jrg_f J sg_68_3_4_1_0_1)
        show jX m_X2_readPlain 19 0 0 147 [(3, .int v2), (0, .ref 95), (1, .int 2), (2, .int l2)] [.int v17] _ 0 0 _
        refine x_ifeq (tgt := 155) rfl rfl (ti_eq rfl jk_0 ⟨fun c18 => ?_, fun c18 => ?_⟩)
        ·
          refine x_aloadn (x := 95) rfl rfl ?_
          refine z_getR (N := 6) (b := 68) 2 0 rfl f_2_30 rfl J rfl 12160 ⟨rfl, rfl⟩ rfl ?_
          refine x_bipush (v := 62) rfl kb_62 ?_
          refine x_inv (N := m_X9_isSign) (As := [.int 62]) (b := 68) (st := []) (dx9 := 1) (mc := 0) (ms := 0) (host := "") 9 rfl t_X9_isSign ⟨Or.inl q_2_55, i_X9_isSign.1, i_X9_isSign.2⟩ ⟨by decide, rfl⟩ (congrArg Prod.fst (J.1.1 68 (9, 6) rfl)) rfl (by decide) rfl rfl ⟨by decide, by decide⟩ (sf_X9_isSign_r68 (jr_of jk_62 (by omega)) hD J qu15 qu16 (by omega)  (fun v22 h ev22 J S19 u20 u21 qu20 qu21 ru20 => ?_))
          have Sm := jSm_tr rfl Sm S19
          have eu20 := (show 0 ≤ u20.toInt ∧ u20.toInt ≤ 3 from qu20 ▸ jrg_f J sg_68_5_6_1_0_1)
          have eu21 := (show 0 ≤ u21.toInt ∧ u21.toInt ≤ 400 from qu21 ▸ jrg_f J sg_68_3_4_1_0_1)
          show jX m_X2_readPlain 19 0 0 164 [(3, .int v2), (0, .ref 95), (1, .int 2), (2, .int l2)] [.int v22] _ 0 0 _
          refine x_ifeq (tgt := 172) rfl rfl (ti_eq rfl jk_0 ⟨fun c23 => ?_, fun c23 => ?_⟩)
          ·
            refine x_aloadn (x := 95) rfl rfl ?_
            refine z_getR (N := 6) (b := 68) 2 0 rfl f_2_30 rfl J rfl 12160 ⟨rfl, rfl⟩ rfl ?_
            refine x_bipush (v := 61) rfl kb_61 ?_
            refine x_inv (N := m_X9_isSign) (As := [.int 61]) (b := 68) (st := []) (dx9 := 1) (mc := 0) (ms := 0) (host := "") 9 rfl t_X9_isSign ⟨Or.inl q_2_55, i_X9_isSign.1, i_X9_isSign.2⟩ ⟨by decide, rfl⟩ (congrArg Prod.fst (J.1.1 68 (9, 6) rfl)) rfl (by decide) rfl rfl ⟨by decide, by decide⟩ (sf_X9_isSign_r68 (jr_of jk_61 (by omega)) hD J qu20 qu21 (by omega)  (fun v27 h ev27 J S24 u25 u26 qu25 qu26 ru25 => ?_))
            have Sm := jSm_tr rfl Sm S24
            have eu25 := (show 0 ≤ u25.toInt ∧ u25.toInt ≤ 3 from qu25 ▸ jrg_f J sg_68_5_6_1_0_1)
            have eu26 := (show 0 ≤ u26.toInt ∧ u26.toInt ≤ 400 from qu26 ▸ jrg_f J sg_68_3_4_1_0_1)
            show jX m_X2_readPlain 19 0 0 181 [(3, .int v2), (0, .ref 95), (1, .int 2), (2, .int l2)] [.int v27] _ 0 0 _
            refine x_ifeq (tgt := 189) rfl rfl (ti_eq rfl jk_0 ⟨fun c28 => ?_, fun c28 => ?_⟩)
            ·
              refine x_iconst (v := (-1)) rfl ki_m1 ?_
              exact jX.sub (jsb_c rfl (jsb_c rfl (jsb_c rfl jsb_n))) (ct_X2_readPlain_r95_c2_100190 hD hQ  l2 u26 u25 h (jr_of rfl (by omega)) (jr_of rfl (by omega)) (jr_of rfl (by omega)) (by omega) qu26 qu25 J Sm)
            ·
              refine x_bipush (v := 9) rfl kb_9 ?_
              refine x_goto (tgt := 190) rfl rfl ?_
              exact jX.sub (jsb_c rfl (jsb_c rfl (jsb_c rfl jsb_n))) (ct_X2_readPlain_r95_c2_190 hD hQ  l2 u26 u25 h (jr_of rfl (by omega)) (jr_of rfl (by omega)) (jr_of rfl (by omega)) (by omega) qu26 qu25 J Sm)
          ·
            refine x_bipush (v := 8) rfl kb_8 ?_
            refine x_goto (tgt := 190) rfl rfl ?_
            exact jX.sub (jsb_c rfl (jsb_c rfl (jsb_c rfl jsb_n))) (ct_X2_readPlain_r95_c2_1000190 hD hQ  l2 u21 u20 h (jr_of rfl (by omega)) (jr_of rfl (by omega)) (jr_of rfl (by omega)) (by omega) qu21 qu20 J Sm)
        ·
          refine x_bipush (v := 7) rfl kb_7 ?_
          refine x_goto (tgt := 190) rfl rfl ?_
          exact jX.sub (jsb_c rfl (jsb_c rfl (jsb_c rfl jsb_n))) (ct_X2_readPlain_r95_c2_900190 hD hQ  l2 u16 u15 h (jr_of rfl (by omega)) (jr_of rfl (by omega)) (jr_of rfl (by omega)) (by omega) qu16 qu15 J Sm)
      ·
        refine x_iconst (v := 0) rfl ki_0 ?_
        refine x_zret rfl rfl (by decide) ?_
        exact hQ _ _ (jr_of jk_0 (by omega)) J Sm _ _ qu10 qu11 (by omega)
    ·
      refine x_aloadn (x := 95) rfl rfl ?_
      refine x_iconst (v := 2) rfl ki_2 ?_
      refine x_iconst (v := 5) rfl ki_5 ?_
      refine x_iloadn (x := v2) rfl rfl ?_
      refine z_iadd0 rfl (fun v29 => ?_)
      have ev29 := jfull v29
      refine x_inv (N := m_X2_readPart) (As := [.int 2, .int v29]) (b := 95) (st := []) (dx9 := 3) (mc := 0) (ms := 0) (host := "") 2 rfl t_X2_readPart ⟨Or.inl q_2_141, i_X2_readPart.1, i_X2_readPart.2⟩ ⟨by decide, rfl⟩ (congrArg Prod.fst (J.1.1 95 (2, 6) rfl)) rfl (by decide) rfl rfl ⟨by decide, by decide⟩ (sf_X2_readPart_r95 (jr_of jk_2 (by omega)) hD J qu4 qu5 (by omega)  (fun v33 h ev33 J S30 u31 u32 qu31 qu32 ru31 => ?_))
      have Sm := jSm_tr rfl Sm S30
      have eu31 := (show 0 ≤ u31.toInt ∧ u31.toInt ≤ 3 from qu31 ▸ jrg_f J sg_68_5_6_1_0_1)
      have eu32 := (show 0 ≤ u32.toInt ∧ u32.toInt ≤ 400 from qu32 ▸ jrg_f J sg_68_3_4_1_0_1)
      show jX m_X2_readPlain 19 0 0 123 [(3, .int v2), (0, .ref 95), (1, .int 2), (2, .int l2)] [.int v33] _ 0 0 _
      refine x_ifne (tgt := 229) rfl rfl (ti_ne rfl jk_0 ⟨fun c34 => ?_, fun c34 => ?_⟩)
      ·
        exact jX.sub (jsb_c rfl (jsb_c rfl jsb_n)) (ct_X2_readPlain_r95_c2_229 hD hQ  l2 u32 u31 h (jr_of rfl (by omega)) (jr_of rfl (by omega)) (jr_of rfl (by omega)) (by omega) qu32 qu31 J Sm)
      ·
        refine x_iconst (v := 0) rfl ki_0 ?_
        refine x_zret rfl rfl (by decide) ?_
        exact hQ _ _ (jr_of jk_0 (by omega)) J Sm _ _ qu31 qu32 (by omega)
  ·
    refine x_iloadn (x := 2) rfl rfl ?_
    refine x_bipush (v := 8) rfl kb_8 ?_
    refine x_iclt (tgt := 82) rfl rfl (ti_lt jk_2 jk_8 (br_t (by omega) ?_))
    refine x_aloadn (x := 95) rfl rfl ?_
    refine z_getR (N := 6) (b := 68) 2 0 rfl f_2_30 rfl J rfl 12160 ⟨rfl, rfl⟩ rfl ?_
    refine x_inv (N := m_X9_step) (As := []) (b := 68) (st := []) (dx9 := 2) (mc := 0) (ms := 0) (host := "") 9 rfl t_X9_step ⟨Or.inl q_2_62, i_X9_step.1, i_X9_step.2⟩ ⟨by decide, rfl⟩ (congrArg Prod.fst (J.1.1 68 (9, 6) rfl)) rfl (by decide) rfl rfl ⟨by decide, by decide⟩ (sf_X9_step_r68  hD J qu4 qu5 (by omega)  (fun h J S35 u36 u37 qu36 qu37 ru36 => ?_))
    have Sm := jSm_tr rfl Sm S35
    have eu36 := (show 0 ≤ u36.toInt ∧ u36.toInt ≤ 3 from qu36 ▸ jrg_f J sg_68_5_6_1_0_1)
    have eu37 := (show 0 ≤ u37.toInt ∧ u37.toInt ≤ 400 from qu37 ▸ jrg_f J sg_68_3_4_1_0_1)
    show jX m_X2_readPlain 19 0 0 89 [(3, .int v2), (0, .ref 95), (1, .int 2), (2, .int l2)] [] _ 0 0 _
    refine x_aloadn (x := 95) rfl rfl ?_
    refine x_iloadn (x := 2) rfl rfl ?_
    refine x_iconst (v := 1) rfl ki_1 ?_
    refine y_iadd (v := 3) rfl (by decide) ?_
    refine x_inv (N := m_X2_readTest) (As := [.int 3]) (b := 95) (st := []) (dx9 := 18) (mc := 0) (ms := 0) (host := "") 2 rfl t_X2_readTest ⟨Or.inl q_2_96, i_X2_readTest.1, i_X2_readTest.2⟩ ⟨by decide, rfl⟩ (congrArg Prod.fst (J.1.1 95 (2, 6) rfl)) rfl (by decide) rfl rfl ⟨by decide, by decide⟩ (sf_X2_readTest_r95_c3  hD J qu36 qu37 (by omega)  (fun v41 h ev41 J S38 u39 u40 qu39 qu40 ru39 => ?_))
    have Sm := jSm_tr rfl Sm S38
    have eu39 := (show 0 ≤ u39.toInt ∧ u39.toInt ≤ 3 from qu39 ▸ jrg_f J sg_68_5_6_1_0_1)
    have eu40 := (show 0 ≤ u40.toInt ∧ u40.toInt ≤ 400 from qu40 ▸ jrg_f J sg_68_3_4_1_0_1)
    show jX m_X2_readPlain 19 0 0 96 [(3, .int v2), (0, .ref 95), (1, .int 2), (2, .int l2)] [.int v41] _ 0 0 _
    refine x_ifeq (tgt := 108) rfl rfl (ti_eq rfl jk_0 ⟨fun c42 => ?_, fun c42 => ?_⟩)
    ·
      exact jX.sub jsb_n (ct_X2_readPlain_r95_c2_108 hD hQ  u40 u39 h (jr_of rfl (by omega)) (jr_of rfl (by omega)) (by omega) qu40 qu39 J Sm)
    ·
      refine x_aloadn (x := 95) rfl rfl ?_
      refine x_bipush (v := 41) rfl kb_41 ?_
      refine x_inv (N := m_X2_readSign) (As := [.int 41]) (b := 95) (st := []) (dx9 := 18) (mc := 0) (ms := 0) (host := "") 2 rfl t_X2_readSign ⟨Or.inl q_2_138, i_X2_readSign.1, i_X2_readSign.2⟩ ⟨by decide, rfl⟩ (congrArg Prod.fst (J.1.1 95 (2, 6) rfl)) rfl (by decide) rfl rfl ⟨by decide, by decide⟩ (jC.of rfl k_X2_readSign rfl ?_)
      show jX m_X2_readSign 18 0 0 0 [(0, .ref 95), (1, .int 41)] [] _ 0 0 _
      refine x_aloadn (x := 95) rfl rfl ?_
      refine z_getR (N := 6) (b := 68) 2 0 rfl f_2_30 rfl J rfl 12160 ⟨rfl, rfl⟩ rfl ?_
      refine x_iloadn (x := 41) rfl rfl ?_
      refine x_inv (N := m_X9_isSign) (As := [.int 41]) (b := 68) (st := []) (dx9 := 1) (mc := 0) (ms := 0) (host := "") 9 rfl t_X9_isSign ⟨Or.inl q_2_55, i_X9_isSign.1, i_X9_isSign.2⟩ ⟨by decide, rfl⟩ (congrArg Prod.fst (J.1.1 68 (9, 6) rfl)) rfl (by decide) rfl rfl ⟨by decide, by decide⟩ (sf_X9_isSign_r68 (jr_of jk_41 (by omega)) hD J qu39 qu40 (by omega)  (fun v46 h ev46 J S43 u44 u45 qu44 qu45 ru44 => ?_))
      have Sm := jSm_tr rfl Sm S43
      have eu44 := (show 0 ≤ u44.toInt ∧ u44.toInt ≤ 3 from qu44 ▸ jrg_f J sg_68_5_6_1_0_1)
      have eu45 := (show 0 ≤ u45.toInt ∧ u45.toInt ≤ 400 from qu45 ▸ jrg_f J sg_68_3_4_1_0_1)
      show jX m_X2_readSign 18 0 0 8 [(0, .ref 95), (1, .int 41)] [.int v46] _ 0 0 _
      refine x_ifne (tgt := 19) rfl rfl (ti_ne rfl jk_0 ⟨fun c47 => ?_, fun c47 => ?_⟩)
      ·
        refine x_aloadn (x := 95) rfl rfl ?_
        refine z_getR (N := 6) (b := 68) 2 0 rfl f_2_30 rfl J rfl 12160 ⟨rfl, rfl⟩ rfl ?_
        refine x_inv (N := m_X9_step) (As := []) (b := 68) (st := []) (dx9 := 2) (mc := 0) (ms := 0) (host := "") 9 rfl t_X9_step ⟨Or.inl q_2_62, i_X9_step.1, i_X9_step.2⟩ ⟨by decide, rfl⟩ (congrArg Prod.fst (J.1.1 68 (9, 6) rfl)) rfl (by decide) rfl rfl ⟨by decide, by decide⟩ (sf_X9_step_r68  hD J qu44 qu45 (by omega)  (fun h J S48 u49 u50 qu49 qu50 ru49 => ?_))
        have Sm := jSm_tr rfl Sm S48
        have eu49 := (show 0 ≤ u49.toInt ∧ u49.toInt ≤ 3 from qu49 ▸ jrg_f J sg_68_5_6_1_0_1)
        have eu50 := (show 0 ≤ u50.toInt ∧ u50.toInt ≤ 400 from qu50 ▸ jrg_f J sg_68_3_4_1_0_1)
        show jX m_X2_readSign 18 0 0 26 [(0, .ref 95), (1, .int 41)] [] _ 0 0 _
        refine x_iconst (v := 1) rfl ki_1 ?_
        refine x_zret rfl rfl (by decide) ?_
        show jX m_X2_readPlain 19 0 0 105 [(3, .int v2), (0, .ref 95), (1, .int 2), (2, .int l2)] [.int 1] _ 0 0 _
        refine x_ifne (tgt := 229) rfl rfl (ti_ne jk_1 jk_0 (bn_t (by omega) ?_))
        exact jX.sub (jsb_c rfl (jsb_c rfl jsb_n)) (ct_X2_readPlain_r95_c2_229 hD hQ  l2 u50 u49 h (jr_of rfl (by omega)) (jr_of rfl (by omega)) (jr_of rfl (by omega)) (by omega) qu50 qu49 J Sm)
      ·
        refine x_aloadn (x := 95) rfl rfl ?_
        refine z_getR (N := 6) (b := 68) 2 0 rfl f_2_30 rfl J rfl 12160 ⟨rfl, rfl⟩ rfl ?_
        refine x_inv (N := m_X9_blame) (As := []) (b := 68) (st := []) (dx9 := 17) (mc := 0) (ms := 0) (host := "") 9 rfl t_X9_blame ⟨Or.inl q_2_59, i_X9_blame.1, i_X9_blame.2⟩ ⟨by decide, rfl⟩ (congrArg Prod.fst (J.1.1 68 (9, 6) rfl)) rfl (by decide) rfl rfl ⟨by decide, by decide⟩ (jC.of rfl k_X9_blame rfl ?_)
        show jX m_X9_blame 17 0 0 0 [(0, .ref 68)] [] _ 0 0 _
        refine x_aloadn (x := 68) rfl rfl ?_
        refine x_aloadn (x := 68) rfl rfl ?_
        refine z_getM (N := 6) (v := u45) 9 3 rfl f_9_22 rfl J rfl qu45 ?_
        refine z_putI (N := 6) (w := u45.toInt) 9 2 rfl f_9_19 rfl (jfin_no TX9 RX9 6 rfl rfl) hD J Sm rfl rfl rfl (pw_68_2 (by omega)) rfl (fun h w51 J Sm => ?_)
        refine x_iconst (v := 0) rfl ki_0 ?_
        refine x_zret rfl rfl (by decide) ?_
        show jX m_X2_readSign 18 0 0 18 [(0, .ref 95), (1, .int 41)] [.int 0] _ 0 0 _
        refine x_zret rfl rfl (by decide) ?_
        show jX m_X2_readPlain 19 0 0 105 [(3, .int v2), (0, .ref 95), (1, .int 2), (2, .int l2)] [.int 0] _ 0 0 _
        refine x_ifne (tgt := 229) rfl rfl (ti_ne jk_0 jk_0 (bn_f (by omega) ?_))
        exact jX.sub jsb_n (ct_X2_readPlain_r95_c2_108 hD hQ  u45 u44 h (jr_of rfl (by omega)) (jr_of rfl (by omega)) (by omega) (jmo w51 rfl qu45) (jmo w51 rfl qu44) J Sm)
set_option maxRecDepth 100000 in
set_option maxHeartbeats 4000000 in
theorem ct_X2_readPlain_r95_c2_300032 {Dy : jH → Prop} {h0 : jH} {Q : Option Value → jH → Prop} {R4 : Int} (hD : jDk Dy) (hQ : ∀ (v : Int32) hx9, 0 ≤ v.toInt ∧ v.toInt ≤ 1 → jJ jSgX Dy hx9 → jSm fp_X2_readPlain_r95_c2 h0 hx9 → ∀ u0 u1 : Int32, jiv hx9 68 5 = u0 → jiv hx9 68 3 = u1 → (u0.toInt ≠ 3 ∨ u1.toInt ≤ 399) → Q (some (.int v)) hx9) (k4 : ∀ (l2 : Int32) (l3 : Int32) (g0 : Int32) (g1 : Int32) (h : jH), 400 - l3.toInt < R4 → 0 ≤ l2.toInt ∧ l2.toInt ≤ 1 → 0 ≤ l3.toInt ∧ l3.toInt ≤ 400 → 0 ≤ g0.toInt ∧ g0.toInt ≤ 400 → 0 ≤ g1.toInt ∧ g1.toInt ≤ 3 → (g1.toInt ≠ 3 ∨ g0.toInt ≤ 399) → jiv h 68 3 = g0 → jiv h 68 5 = g1 → jJ jSgX Dy h → jSm fp_X2_readPlain_r95_c2 h0 h → jX m_X2_readPlain 19 0 0 4 [(0, .ref 95), (1, .int 2), (2, .int l2), (3, .int l3)] [] h 0 0 Q) : ∀ (l3 : Int32) (g0 : Int32) (g1 : Int32) (h : jH), 0 ≤ l3.toInt ∧ l3.toInt ≤ 399 → 0 ≤ g0.toInt ∧ g0.toInt ≤ 400 → 0 ≤ g1.toInt ∧ g1.toInt ≤ 3 → (g1.toInt ≠ 3 ∨ g0.toInt ≤ 399) → jiv h 68 3 = g0 → jiv h 68 5 = g1 → 400 - l3.toInt ≤ R4 → jJ jSgX Dy h → jSm fp_X2_readPlain_r95_c2 h0 h → jX m_X2_readPlain 19 0 0 32 [(0, .ref 95), (1, .int 2), (3, .int l3)] [.int 1] h 0 0 Q := by
  intro l3 g0 g1 h y0 y1 y2 y3 z0 z1 m4 J Sm
  refine x_istoren (lsx9 := [(2, .int 1), (0, .ref 95), (1, .int 2), (3, .int l3)]) rfl rfl rfl ?_
  refine x_aloadn (x := 95) rfl rfl ?_
  refine z_getR (N := 6) (b := 68) 2 0 rfl f_2_30 rfl J rfl 12160 ⟨rfl, rfl⟩ rfl ?_
  refine x_inv (N := m_X9_step) (As := []) (b := 68) (st := []) (dx9 := 2) (mc := 0) (ms := 0) (host := "") 9 rfl t_X9_step ⟨Or.inl q_2_62, i_X9_step.1, i_X9_step.2⟩ ⟨by decide, rfl⟩ (congrArg Prod.fst (J.1.1 68 (9, 6) rfl)) rfl (by decide) rfl rfl ⟨by decide, by decide⟩ (sf_X9_step_r68  hD J z1 z0 (by omega)  (fun h J S1 u2 u3 qu2 qu3 ru2 => ?_))
  have Sm := jSm_tr rfl Sm S1
  have eu2 := (show 0 ≤ u2.toInt ∧ u2.toInt ≤ 3 from qu2 ▸ jrg_f J sg_68_5_6_1_0_1)
  have eu3 := (show 0 ≤ u3.toInt ∧ u3.toInt ≤ 400 from qu3 ▸ jrg_f J sg_68_3_4_1_0_1)
  show jX m_X2_readPlain 19 0 0 40 [(2, .int 1), (0, .ref 95), (1, .int 2), (3, .int l3)] [] _ 0 0 _
  refine z_iinc (x := l3) (lsx9 := fun v4 => [(3, .int v4), (2, .int 1), (0, .ref 95), (1, .int 2)]) rfl rfl rfl jko_1 (by omega) rfl (fun _ => rfl) (fun v4 ev4 => ?_)
  refine x_goto (tgt := 4) rfl rfl ?_
  exact jX.sub (jsb_c rfl (jsb_c rfl (jsb_c rfl (jsb_c rfl jsb_n)))) (k4 1 v4 u3 u2 h (by omega) (jr_of jk_1 (by omega)) (jr_of rfl (by omega)) (jr_of rfl (by omega)) (jr_of rfl (by omega)) (by omega) qu3 qu2 J Sm)
set_option maxRecDepth 100000 in
set_option maxHeartbeats 4000000 in
theorem ct_X2_readPlain_r95_c2_200032 {Dy : jH → Prop} {h0 : jH} {Q : Option Value → jH → Prop} {R4 : Int} (hD : jDk Dy) (hQ : ∀ (v : Int32) hx9, 0 ≤ v.toInt ∧ v.toInt ≤ 1 → jJ jSgX Dy hx9 → jSm fp_X2_readPlain_r95_c2 h0 hx9 → ∀ u0 u1 : Int32, jiv hx9 68 5 = u0 → jiv hx9 68 3 = u1 → (u0.toInt ≠ 3 ∨ u1.toInt ≤ 399) → Q (some (.int v)) hx9) (k4 : ∀ (l2 : Int32) (l3 : Int32) (g0 : Int32) (g1 : Int32) (h : jH), 400 - l3.toInt < R4 → 0 ≤ l2.toInt ∧ l2.toInt ≤ 1 → 0 ≤ l3.toInt ∧ l3.toInt ≤ 400 → 0 ≤ g0.toInt ∧ g0.toInt ≤ 400 → 0 ≤ g1.toInt ∧ g1.toInt ≤ 3 → (g1.toInt ≠ 3 ∨ g0.toInt ≤ 399) → jiv h 68 3 = g0 → jiv h 68 5 = g1 → jJ jSgX Dy h → jSm fp_X2_readPlain_r95_c2 h0 h → jX m_X2_readPlain 19 0 0 4 [(0, .ref 95), (1, .int 2), (2, .int l2), (3, .int l3)] [] h 0 0 Q) : ∀ (l3 : Int32) (g0 : Int32) (g1 : Int32) (h : jH), 0 ≤ l3.toInt ∧ l3.toInt ≤ 399 → 0 ≤ g0.toInt ∧ g0.toInt ≤ 400 → 0 ≤ g1.toInt ∧ g1.toInt ≤ 3 → (g1.toInt ≠ 3 ∨ g0.toInt ≤ 399) → jiv h 68 3 = g0 → jiv h 68 5 = g1 → 400 - l3.toInt ≤ R4 → jJ jSgX Dy h → jSm fp_X2_readPlain_r95_c2 h0 h → jX m_X2_readPlain 19 0 0 32 [(0, .ref 95), (1, .int 2), (3, .int l3)] [.int 0] h 0 0 Q := by
  intro l3 g0 g1 h y0 y1 y2 y3 z0 z1 m4 J Sm
  refine x_istoren (lsx9 := [(2, .int 0), (0, .ref 95), (1, .int 2), (3, .int l3)]) rfl rfl rfl ?_
  refine x_aloadn (x := 95) rfl rfl ?_
  refine z_getR (N := 6) (b := 68) 2 0 rfl f_2_30 rfl J rfl 12160 ⟨rfl, rfl⟩ rfl ?_
  refine x_inv (N := m_X9_step) (As := []) (b := 68) (st := []) (dx9 := 2) (mc := 0) (ms := 0) (host := "") 9 rfl t_X9_step ⟨Or.inl q_2_62, i_X9_step.1, i_X9_step.2⟩ ⟨by decide, rfl⟩ (congrArg Prod.fst (J.1.1 68 (9, 6) rfl)) rfl (by decide) rfl rfl ⟨by decide, by decide⟩ (sf_X9_step_r68  hD J z1 z0 (by omega)  (fun h J S1 u2 u3 qu2 qu3 ru2 => ?_))
  have Sm := jSm_tr rfl Sm S1
  have eu2 := (show 0 ≤ u2.toInt ∧ u2.toInt ≤ 3 from qu2 ▸ jrg_f J sg_68_5_6_1_0_1)
  have eu3 := (show 0 ≤ u3.toInt ∧ u3.toInt ≤ 400 from qu3 ▸ jrg_f J sg_68_3_4_1_0_1)
  show jX m_X2_readPlain 19 0 0 40 [(2, .int 0), (0, .ref 95), (1, .int 2), (3, .int l3)] [] _ 0 0 _
  refine z_iinc (x := l3) (lsx9 := fun v4 => [(3, .int v4), (2, .int 0), (0, .ref 95), (1, .int 2)]) rfl rfl rfl jko_1 (by omega) rfl (fun _ => rfl) (fun v4 ev4 => ?_)
  refine x_goto (tgt := 4) rfl rfl ?_
  exact jX.sub (jsb_c rfl (jsb_c rfl (jsb_c rfl (jsb_c rfl jsb_n)))) (k4 0 v4 u3 u2 h (by omega) (jr_of jk_0 (by omega)) (jr_of rfl (by omega)) (jr_of rfl (by omega)) (jr_of rfl (by omega)) (by omega) qu3 qu2 J Sm)
set_option maxRecDepth 100000 in
set_option maxHeartbeats 4000000 in
theorem ct_X2_readPlain_r95_c2_4 {Dy : jH → Prop} {h0 : jH} {Q : Option Value → jH → Prop} (hD : jDk Dy) (hQ : ∀ (v : Int32) hx9, 0 ≤ v.toInt ∧ v.toInt ≤ 1 → jJ jSgX Dy hx9 → jSm fp_X2_readPlain_r95_c2 h0 hx9 → ∀ u0 u1 : Int32, jiv hx9 68 5 = u0 → jiv hx9 68 3 = u1 → (u0.toInt ≠ 3 ∨ u1.toInt ≤ 399) → Q (some (.int v)) hx9) : ∀ r : Nat, ∀ (l2 : Int32) (l3 : Int32) (g0 : Int32) (g1 : Int32) (h : jH), 400 - l3.toInt < (r : Int) → 0 ≤ l2.toInt ∧ l2.toInt ≤ 1 → 0 ≤ l3.toInt ∧ l3.toInt ≤ 400 → 0 ≤ g0.toInt ∧ g0.toInt ≤ 400 → 0 ≤ g1.toInt ∧ g1.toInt ≤ 3 → (g1.toInt ≠ 3 ∨ g0.toInt ≤ 399) → jiv h 68 3 = g0 → jiv h 68 5 = g1 → jJ jSgX Dy h → jSm fp_X2_readPlain_r95_c2 h0 h → jX m_X2_readPlain 19 0 0 4 [(0, .ref 95), (1, .int 2), (2, .int l2), (3, .int l3)] [] h 0 0 Q := by
  intro r
  induction r with
  | zero =>
    intro l2 l3 g0 g1 h hm y0 y1 y2 y3 y4 z0 z1  J Sm
    exfalso
    omega
  | succ r ih =>
    intro l2 l3 g0 g1 h hm y0 y1 y2 y3 y4 z0 z1  J Sm
    refine x_iloadn (x := l3) rfl rfl ?_
    refine x_sipush (v := 400) rfl ks_400 ?_
    refine x_icge (tgt := 46) rfl rfl (ti_ge rfl jk_400 ⟨fun c1 => ?_, fun c1 => ?_⟩)
    ·
      exact jX.sub (jsb_c rfl (jsb_c rfl (jsb_c rfl jsb_n))) (ct_X2_readPlain_r95_c2_46 hD hQ  l2 g0 g1 h (jr_of rfl (by omega)) (jr_of rfl (by omega)) (jr_of rfl (by omega)) (by omega) z0 z1 J Sm)
    ·
      refine x_aloadn (x := 95) rfl rfl ?_
      refine z_getR (N := 6) (b := 68) 2 0 rfl f_2_30 rfl J rfl 12160 ⟨rfl, rfl⟩ rfl ?_
      refine x_ldcS (jstr.getD 9 jstr_0) rfl (List.mem_of_getElem? (i := 9) rfl) rfl rfl ?_
      show jX m_X2_readPlain 19 0 0 17 [(0, .ref 95), (1, .int 2), (2, .int l2), (3, .int l3)] [.ref 14, .ref 68] _ 0 0 _
      refine x_inv (N := m_X9_wordOf) (As := [.ref 14]) (b := 68) (st := []) (dx9 := 4) (mc := 0) (ms := 0) (host := "") 9 rfl t_X9_wordOf ⟨Or.inl q_2_67, i_X9_wordOf.1, i_X9_wordOf.2⟩ ⟨by decide, rfl⟩ (congrArg Prod.fst (J.1.1 68 (9, 6) rfl)) rfl (by decide) rfl rfl ⟨by decide, by decide⟩ (sf_X9_wordOf_r68_r14  hD J  (fun v3 h J S2 => ?_))
      have ev3 := jfull v3
      have Sm := jSm_tr rfl Sm S2
      show jX m_X2_readPlain 19 0 0 20 [(0, .ref 95), (1, .int 2), (2, .int l2), (3, .int l3)] [.int v3] _ 0 0 _
      refine x_ifne (tgt := 46) rfl rfl (ti_ne rfl jk_0 ⟨fun c4 => ?_, fun c4 => ?_⟩)
      ·
        exact jX.sub (jsb_c rfl (jsb_c rfl (jsb_c rfl jsb_n))) (ct_X2_readPlain_r95_c2_46 hD hQ  l2 g0 g1 h (jr_of rfl (by omega)) (jr_of rfl (by omega)) (jr_of rfl (by omega)) (by omega) (jmc S2 rfl z0) (jmc S2 rfl z1) J Sm)
      ·
        refine x_iloadn (x := l2) rfl rfl ?_
        refine x_ifne (tgt := 31) rfl rfl (ti_ne rfl jk_0 ⟨fun c5 => ?_, fun c5 => ?_⟩)
        ·
          refine x_iconst (v := 0) rfl ki_0 ?_
          exact jX.sub (jsb_c rfl (jsb_c rfl (jsb_c rfl jsb_n))) (ct_X2_readPlain_r95_c2_200032 hD hQ ih l3 g0 g1 h (jr_of rfl (by omega)) (jr_of rfl (by omega)) (jr_of rfl (by omega)) (by omega) (jmc S2 rfl z0) (jmc S2 rfl z1) (by omega) J Sm)
        ·
          refine x_iconst (v := 1) rfl ki_1 ?_
          refine x_goto (tgt := 32) rfl rfl ?_
          exact jX.sub (jsb_c rfl (jsb_c rfl (jsb_c rfl jsb_n))) (ct_X2_readPlain_r95_c2_300032 hD hQ ih l3 g0 g1 h (jr_of rfl (by omega)) (jr_of rfl (by omega)) (jr_of rfl (by omega)) (by omega) (jmc S2 rfl z0) (jmc S2 rfl z1) (by omega) J Sm)
set_option maxRecDepth 100000 in
set_option maxHeartbeats 4000000 in
theorem sf_X2_readPlain_r95_c2 {Dy : jH → Prop} {h : jH} {Q : Option Value → jH → Prop} (hD : jDk Dy) (J : jJ jSgX Dy h) {p0 p1 : Int32} (zp0 : jiv h 68 5 = p0) (zp1 : jiv h 68 3 = p1) (rl_p0 : (p0.toInt ≠ 3 ∨ p1.toInt ≤ 399)) (hQ : ∀ (v : Int32) hx9, 0 ≤ v.toInt ∧ v.toInt ≤ 1 → jJ jSgX Dy hx9 → jSm fp_X2_readPlain_r95_c2 h hx9 → ∀ u0 u1 : Int32, jiv hx9 68 5 = u0 → jiv hx9 68 3 = u1 → (u0.toInt ≠ 3 ∨ u1.toInt ≤ 399) → Q (some (.int v)) hx9) : jC m_X2_readPlain 19 0 0 [.ref 95, .int 2] h Q := by
  refine jC.of rfl k_X2_readPlain rfl ?_
  have Sm := jSm_rf fp_X2_readPlain_r95_c2 h
  have ep0 := (show 0 ≤ p0.toInt ∧ p0.toInt ≤ 3 from zp0 ▸ jrg_f J sg_68_5_6_1_0_1)
  have ep1 := (show 0 ≤ p1.toInt ∧ p1.toInt ≤ 400 from zp1 ▸ jrg_f J sg_68_3_4_1_0_1)
  show jX m_X2_readPlain 19 0 0 0 [(0, .ref 95), (1, .int 2)] [] _ 0 0 _
  refine x_iconst (v := 0) rfl ki_0 ?_
  refine x_istoren (lsx9 := [(2, .int 0), (0, .ref 95), (1, .int 2)]) rfl rfl rfl ?_
  refine x_iconst (v := 0) rfl ki_0 ?_
  refine x_istoren (lsx9 := [(3, .int 0), (2, .int 0), (0, .ref 95), (1, .int 2)]) rfl rfl rfl ?_
  exact jX.sub (jsb_c rfl (jsb_c rfl (jsb_c rfl (jsb_c rfl jsb_n)))) (ct_X2_readPlain_r95_c2_4 hD hQ  401 0 0 p1 p0 h (by have := jk_0; omega) (jr_of jk_0 (by omega)) (jr_of jk_0 (by omega)) (jr_of rfl (by omega)) (jr_of rfl (by omega)) (by omega) zp1 zp0 J Sm)
