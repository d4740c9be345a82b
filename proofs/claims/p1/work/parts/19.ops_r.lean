/-! fill -/
set_option maxRecDepth 100000 in
set_option maxHeartbeats 40000000 in
theorem c_wholeDays {bk x y kn : Int32} {m n : Int} {h : jH} {Q : Option Value → jH → Prop} (hx : x.toInt = m) (hy : y.toInt = n) (hm : -4000 ≤ m ∧ m ≤ 160000) (hn : -4000 ≤ n ∧ n ≤ 160000) (F : jFb 31 h) (hQ : ∀ w : Int32, (m ≤ n ∧ w.toInt = n + 1 - m) ∨ (n < m ∧ w.toInt = 0) → Q (some (.int w)) h) : jC m_X11_wholeDays 98 0 0 [.ref 31, .int bk, .int x, .int y, .int kn] h Q := by
  subst hx; subst hy
  have z0 : (0 : Int32).toInt = 0 := by decide
  refine jC.of rfl k_X11_wholeDays rfl ?_
  show jX m_X11_wholeDays 98 0 0 0 [(0, .ref 31), (1, .int bk), (2, .int x), (3, .int y), (4, .int kn)] [] _ 0 0 _
  refine x_iconst (v := 0) rfl ki_0 ?_
  refine x_istore (ls' := [(5, .int 0), (0, .ref 31), (1, .int bk), (2, .int x), (3, .int y), (4, .int kn)]) rfl rfl rfl ?_
  refine x_iloadn (x := x) rfl rfl ?_
  refine x_istore (ls' := [(6, .int x), (5, .int 0), (0, .ref 31), (1, .int bk), (2, .int x), (3, .int y), (4, .int kn)]) rfl rfl rfl ?_
  refine x_iconst (v := 0) rfl ki_0 ?_
  refine x_istore (ls' := [(7, .int 0), (6, .int x), (5, .int 0), (0, .ref 31), (1, .int bk), (2, .int x), (3, .int y), (4, .int kn)]) rfl rfl rfl ?_
  refine x_iload (x := 0) rfl rfl ?_
  refine x_iconst (v := 2) rfl ki_2 ?_
  refine x_aloadn (x := 31) rfl rfl ?_
  refine x_getR (b := 32) 11 0 rfl f_11_10 rfl (congrArg Prod.fst (F.1 31 (11, 13) rfl rfl)) (F.2.1 3968 32 rfl rfl) ?_
  refine x_getR (b := 41) 1 4 rfl f_11_312 rfl (congrArg Prod.fst (F.1 32 (1, 20) rfl rfl)) (F.2.1 4100 41 rfl rfl) ?_
  refine y_getI (v := 0) 8 3 rfl f_11_142 rfl (congrArg Prod.fst (F.1 41 (8, 4) rfl rfl)) (F.2.2.1 5251 0 rfl rfl) ?_
  refine y_imul (v := 0) rfl (by decide) ?_
  refine x_icgt (tgt := 180) rfl rfl (br_f (by decide) ?_)
  refine x_iload (x := x) rfl rfl ?_
  refine x_iloadn (x := y) rfl rfl ?_
  refine x_icgt (tgt := 180) rfl rfl (ti_gt (show (x : Int32).toInt = x.toInt from rfl) (show (y : Int32).toInt = y.toInt from rfl) ⟨fun c1 => ?_, fun c1 => ?_⟩)
  ·
    refine x_iload (x := 0) rfl rfl ?_
    refine x_iret rfl rfl ?_
    exact hQ _ (by omega)
  ·
    refine x_iload (x := x) rfl rfl ?_
    refine x_istore (ls' := [(8, .int x), (7, .int 0), (6, .int x), (5, .int 0), (0, .ref 31), (1, .int bk), (2, .int x), (3, .int y), (4, .int kn)]) rfl rfl rfl ?_
    refine x_iloadn (x := y) rfl rfl ?_
    refine x_iconst (v := 1) rfl ki_1 ?_
    refine x_iadd rfl ?_
    have c2 := jaddf (x := y) (y := 1) (show (y : Int32).toInt = y.toInt from rfl) (show (1 : Int32).toInt = 1 by decide) (by omega)
    refine x_istore (ls' := [(9, .int (y + 1)), (8, .int x), (7, .int 0), (6, .int x), (5, .int 0), (0, .ref 31), (1, .int bk), (2, .int x), (3, .int y), (4, .int kn)]) rfl rfl rfl ?_
    refine x_iconst (v := 0) rfl ki_0 ?_
    refine x_istore (ls' := [(10, .int 0), (9, .int (y + 1)), (8, .int x), (7, .int 0), (6, .int x), (5, .int 0), (0, .ref 31), (1, .int bk), (2, .int x), (3, .int y), (4, .int kn)]) rfl rfl rfl ?_
    refine x_iload (x := 0) rfl rfl ?_
    refine x_aloadn (x := 31) rfl rfl ?_
    refine x_getR (b := 32) 11 0 rfl f_11_10 rfl (congrArg Prod.fst (F.1 31 (11, 13) rfl rfl)) (F.2.1 3968 32 rfl rfl) ?_
    refine x_getR (b := 41) 1 4 rfl f_11_312 rfl (congrArg Prod.fst (F.1 32 (1, 20) rfl rfl)) (F.2.1 4100 41 rfl rfl) ?_
    refine y_getI (v := 0) 8 3 rfl f_11_142 rfl (congrArg Prod.fst (F.1 41 (8, 4) rfl rfl)) (F.2.2.1 5251 0 rfl rfl) ?_
    refine x_icge (tgt := 146) rfl rfl (br_t (by decide) ?_)
    refine x_iload (x := x) rfl rfl ?_
    refine x_iload (x := x) rfl rfl ?_
    refine x_icle (tgt := 160) rfl rfl (ti_le (show (x : Int32).toInt = x.toInt from rfl) (show (x : Int32).toInt = x.toInt from rfl) ⟨fun c3 => ?_, fun c3 => ?_⟩)
    ·
      refine x_iload (x := 0) rfl rfl ?_
      refine x_iload (x := y + 1) rfl rfl ?_
      refine x_iload (x := x) rfl rfl ?_
      refine x_isub rfl ?_
      have c4 := jsubf (x := y + 1) (y := x) (show (y + 1 : Int32).toInt = (y + 1).toInt from rfl) (show (x : Int32).toInt = x.toInt from rfl) (by omega)
      refine x_iadd rfl ?_
      have c5 := jaddf (x := 0) (y := (y + 1) - x) (show (0 : Int32).toInt = 0 by decide) (show ((y + 1) - x : Int32).toInt = ((y + 1) - x).toInt from rfl) (by omega)
      refine x_istore (ls' := [(5, .int (0 + ((y + 1) - x))), (10, .int 0), (9, .int (y + 1)), (8, .int x), (7, .int 0), (6, .int x), (0, .ref 31), (1, .int bk), (2, .int x), (3, .int y), (4, .int kn)]) rfl rfl rfl ?_
      refine x_iload (x := y + 1) rfl rfl ?_
      refine x_istore (ls' := [(6, .int (y + 1)), (5, .int (0 + ((y + 1) - x))), (10, .int 0), (9, .int (y + 1)), (8, .int x), (7, .int 0), (0, .ref 31), (1, .int bk), (2, .int x), (3, .int y), (4, .int kn)]) rfl rfl rfl ?_
      refine x_iinc (x := 0) (v := 1) (ls' := [(7, .int 1), (6, .int (y + 1)), (5, .int (0 + ((y + 1) - x))), (10, .int 0), (9, .int (y + 1)), (8, .int x), (0, .ref 31), (1, .int bk), (2, .int x), (3, .int y), (4, .int kn)]) rfl rfl (by decide) rfl rfl ?_
      refine x_goto (tgt := 9) rfl rfl ?_
      refine x_iload (x := 1) rfl rfl ?_
      refine x_iconst (v := 2) rfl ki_2 ?_
      refine x_aloadn (x := 31) rfl rfl ?_
      refine x_getR (b := 32) 11 0 rfl f_11_10 rfl (congrArg Prod.fst (F.1 31 (11, 13) rfl rfl)) (F.2.1 3968 32 rfl rfl) ?_
      refine x_getR (b := 41) 1 4 rfl f_11_312 rfl (congrArg Prod.fst (F.1 32 (1, 20) rfl rfl)) (F.2.1 4100 41 rfl rfl) ?_
      refine y_getI (v := 0) 8 3 rfl f_11_142 rfl (congrArg Prod.fst (F.1 41 (8, 4) rfl rfl)) (F.2.2.1 5251 0 rfl rfl) ?_
      refine y_imul (v := 0) rfl (by decide) ?_
      refine x_icgt (tgt := 180) rfl rfl (br_t (by decide) ?_)
      refine x_iload (x := 0 + ((y + 1) - x)) rfl rfl ?_
      refine x_iret rfl rfl ?_
      exact hQ _ (by omega)
    ·
      exfalso
      omega
set_option maxRecDepth 100000 in
set_option maxHeartbeats 40000000 in
theorem c_guessedOf {a1 a2 a3 a4 : Int32} {h : jH} {Q : Option Value → jH → Prop} (ha : 0 ≤ a2.toInt ∧ a2.toInt ≤ a3.toInt ∧ a3.toInt ≤ 146399) (F : jFb 31 h) (hQ : Q (some (.int 0)) h) : jC m_X11_guessedOf 99 0 0 [.ref 31, .int a1, .int a2, .int a3, .int a4] h Q := by
  have z0 : (0 : Int32).toInt = 0 := by decide
  have z1 : (146399 : Int32).toInt = 146399 := by decide
  refine jC.of rfl k_X11_guessedOf rfl ?_
  show jX m_X11_guessedOf 99 0 0 0 [(0, .ref 31), (1, .int a1), (2, .int a2), (3, .int a3), (4, .int a4)] [] _ 0 0 _
  refine x_iconst (v := 0) rfl ki_0 ?_
  refine x_iloadn (x := a2) rfl rfl ?_
  refine x_sipush (v := 3660) rfl ks_3660 ?_
  refine x_isub rfl ?_
  have c1 := jsubf (x := a2) (y := 3660) (show (a2 : Int32).toInt = a2.toInt from rfl) (show (3660 : Int32).toInt = 3660 by decide) (by omega)
  refine x_mmax rfl q_11_193 (by decide) rfl (ti_lt (show (0 : Int32).toInt = 0 by decide) (show (a2 - 3660 : Int32).toInt = (a2 - 3660).toInt from rfl) ⟨fun c2 => ?_, fun c2 => ?_⟩)
  ·
    refine x_istore (ls' := [(5, .int (a2 - 3660)), (0, .ref 31), (1, .int a1), (2, .int a2), (3, .int a3), (4, .int a4)]) rfl rfl rfl ?_
    refine x_ldc (v := 146399) rfl z_11_233 ?_
    refine x_iloadn (x := a3) rfl rfl ?_
    refine x_sipush (v := 3660) rfl ks_3660 ?_
    refine x_iadd rfl ?_
    have c3 := jaddf (x := a3) (y := 3660) (show (a3 : Int32).toInt = a3.toInt from rfl) (show (3660 : Int32).toInt = 3660 by decide) (by omega)
    refine x_mmin rfl q_11_553 (by decide) rfl (ti_lt (show (a3 + 3660 : Int32).toInt = (a3 + 3660).toInt from rfl) (show (146399 : Int32).toInt = 146399 by decide) ⟨fun c4 => ?_, fun c4 => ?_⟩)
    ·
      refine x_istore (ls' := [(6, .int (a3 + 3660)), (5, .int (a2 - 3660)), (0, .ref 31), (1, .int a1), (2, .int a2), (3, .int a3), (4, .int a4)]) rfl rfl rfl ?_
      refine x_aloadn (x := 31) rfl rfl ?_
      refine x_iloadn (x := a1) rfl rfl ?_
      refine x_iload (x := a2 - 3660) rfl rfl ?_
      refine x_iloadn (x := a2) rfl rfl ?_
      refine x_iconst (v := 1) rfl ki_1 ?_
      refine x_isub rfl ?_
      have c5 := jsubf (x := a2) (y := 1) (show (a2 : Int32).toInt = a2.toInt from rfl) (show (1 : Int32).toInt = 1 by decide) (by omega)
      refine x_iload (x := a4) rfl rfl ?_
      refine x_inv (N := m_X11_wholeDays) (As := [.int a1, .int (a2 - 3660), .int (a2 - 1), .int a4]) (b := 31) (st := []) (d' := 98) (mc := 0) (ms := 0) (host := "") 11 rfl t_X11_wholeDays ⟨Or.inl q_11_556, i_X11_wholeDays.1, i_X11_wholeDays.2⟩ ⟨by decide, rfl⟩ (congrArg Prod.fst (F.1 31 (11, 13) rfl rfl)) rfl (by decide) rfl rfl ⟨by decide, by decide⟩ (c_wholeDays (m := (a2 - 3660).toInt) (n := (a2 - 1).toInt) rfl rfl (by omega) (by omega) F ?_)
      intro w1 ew1
      show jX m_X11_guessedOf 99 0 0 35 [(6, .int (a3 + 3660)), (5, .int (a2 - 3660)), (0, .ref 31), (1, .int a1), (2, .int a2), (3, .int a3), (4, .int a4)] [.int w1] _ 0 0 _
      refine x_aloadn (x := 31) rfl rfl ?_
      refine x_iloadn (x := a1) rfl rfl ?_
      refine x_iloadn (x := a3) rfl rfl ?_
      refine x_iconst (v := 1) rfl ki_1 ?_
      refine x_iadd rfl ?_
      have c6 := jaddf (x := a3) (y := 1) (show (a3 : Int32).toInt = a3.toInt from rfl) (show (1 : Int32).toInt = 1 by decide) (by omega)
      refine x_iload (x := a3 + 3660) rfl rfl ?_
      refine x_iload (x := a4) rfl rfl ?_
      refine x_inv (N := m_X11_wholeDays) (As := [.int a1, .int (a3 + 1), .int (a3 + 3660), .int a4]) (b := 31) (st := [.int w1]) (d' := 98) (mc := 0) (ms := 0) (host := "") 11 rfl t_X11_wholeDays ⟨Or.inl q_11_556, i_X11_wholeDays.1, i_X11_wholeDays.2⟩ ⟨by decide, rfl⟩ (congrArg Prod.fst (F.1 31 (11, 13) rfl rfl)) rfl (by decide) rfl rfl ⟨by decide, by decide⟩ (c_wholeDays (m := (a3 + 1).toInt) (n := (a3 + 3660).toInt) rfl rfl (by omega) (by omega) F ?_)
      intro w2 ew2
      show jX m_X11_guessedOf 99 0 0 47 [(6, .int (a3 + 3660)), (5, .int (a2 - 3660)), (0, .ref 31), (1, .int a1), (2, .int a2), (3, .int a3), (4, .int a4)] [.int w2, .int w1] _ 0 0 _
      refine x_iadd rfl ?_
      have c7 := jaddf (x := w1) (y := w2) (show (w1 : Int32).toInt = w1.toInt from rfl) (show (w2 : Int32).toInt = w2.toInt from rfl) (by omega)
      refine x_i2l rfl ?_
      have c8 := jt_l (w1 + w2)
      refine x_lstore (ls' := [(7, .long ((w1 + w2).toInt64)), (6, .int (a3 + 3660)), (5, .int (a2 - 3660)), (0, .ref 31), (1, .int a1), (2, .int a2), (3, .int a3), (4, .int a4)]) rfl rfl rfl ?_
      refine x_lload (x := (w1 + w2).toInt64) rfl rfl ?_
      refine x_lconst (v := 0) rfl kl_0 ?_
      refine x_lcmp rfl ?_
      refine x_ifne (tgt := 60) rfl rfl (jlc_ne (jt_l (w1 + w2)) (show (0 : Int64).toInt = 0 by decide) ⟨fun c9 => ?_, fun c9 => ?_⟩)
      ·
        refine x_lconst (v := 0) rfl kl_0 ?_
        refine x_lstore (ls' := [(9, .long 0), (7, .long ((w1 + w2).toInt64)), (6, .int (a3 + 3660)), (5, .int (a2 - 3660)), (0, .ref 31), (1, .int a1), (2, .int a2), (3, .int a3), (4, .int a4)]) rfl rfl rfl ?_
        refine x_iconst (v := 0) rfl ki_0 ?_
        refine x_istore (ls' := [(11, .int 0), (9, .long 0), (7, .long ((w1 + w2).toInt64)), (6, .int (a3 + 3660)), (5, .int (a2 - 3660)), (0, .ref 31), (1, .int a1), (2, .int a2), (3, .int a3), (4, .int a4)]) rfl rfl rfl ?_
        refine x_iload (x := 0) rfl rfl ?_
        refine x_aloadn (x := 31) rfl rfl ?_
        refine x_getR (b := 32) 11 0 rfl f_11_10 rfl (congrArg Prod.fst (F.1 31 (11, 13) rfl rfl)) (F.2.1 3968 32 rfl rfl) ?_
        refine x_getR (b := 33) 1 0 rfl f_11_126 rfl (congrArg Prod.fst (F.1 32 (1, 20) rfl rfl)) (F.2.1 4096 33 rfl rfl) ?_
        refine y_getI (v := 0) 8 3 rfl f_11_142 rfl (congrArg Prod.fst (F.1 33 (8, 4) rfl rfl)) (F.2.2.1 4227 0 rfl rfl) ?_
        refine x_icge (tgt := 172) rfl rfl (br_t (by decide) ?_)
        refine x_ldc2 (v := 2) rfl z_11_559 ?_
        refine x_lload (x := 0) rfl rfl ?_
        refine x_lmul rfl ?_
        refine x_iloadn (x := a3) rfl rfl ?_
        refine x_iloadn (x := a2) rfl rfl ?_
        refine x_isub rfl ?_
        have c10 := jsubf (x := a3) (y := a2) (show (a3 : Int32).toInt = a3.toInt from rfl) (show (a2 : Int32).toInt = a2.toInt from rfl) (by omega)
        refine x_iconst (v := 1) rfl ki_1 ?_
        refine x_iadd rfl ?_
        have c11 := jaddf (x := a3 - a2) (y := 1) (show (a3 - a2 : Int32).toInt = (a3 - a2).toInt from rfl) (show (1 : Int32).toInt = 1 by decide) (by omega)
        refine x_i2l rfl ?_
        have c12 := jt_l ((a3 - a2) + 1)
        refine x_lmul rfl ?_
        refine x_lload (x := (w1 + w2).toInt64) rfl rfl ?_
        refine x_ladd rfl ?_
        refine x_ldc2 (v := 2) rfl z_11_559 ?_
        refine x_lload (x := (w1 + w2).toInt64) rfl rfl ?_
        refine x_lmul rfl ?_
        refine x_ldiv rfl (jd2_ne (by omega)) ?_
        refine y_l2i (v := 0) rfl (jfz (by omega)) ?_
        refine x_iret rfl rfl ?_
        exact hQ
      ·
        refine x_iconst (v := 0) rfl ki_0 ?_
        refine x_iret rfl rfl ?_
        exact hQ
    ·
      refine x_istore (ls' := [(6, .int 146399), (5, .int (a2 - 3660)), (0, .ref 31), (1, .int a1), (2, .int a2), (3, .int a3), (4, .int a4)]) rfl rfl rfl ?_
      refine x_aloadn (x := 31) rfl rfl ?_
      refine x_iloadn (x := a1) rfl rfl ?_
      refine x_iload (x := a2 - 3660) rfl rfl ?_
      refine x_iloadn (x := a2) rfl rfl ?_
      refine x_iconst (v := 1) rfl ki_1 ?_
      refine x_isub rfl ?_
      have c13 := jsubf (x := a2) (y := 1) (show (a2 : Int32).toInt = a2.toInt from rfl) (show (1 : Int32).toInt = 1 by decide) (by omega)
      refine x_iload (x := a4) rfl rfl ?_
      refine x_inv (N := m_X11_wholeDays) (As := [.int a1, .int (a2 - 3660), .int (a2 - 1), .int a4]) (b := 31) (st := []) (d' := 98) (mc := 0) (ms := 0) (host := "") 11 rfl t_X11_wholeDays ⟨Or.inl q_11_556, i_X11_wholeDays.1, i_X11_wholeDays.2⟩ ⟨by decide, rfl⟩ (congrArg Prod.fst (F.1 31 (11, 13) rfl rfl)) rfl (by decide) rfl rfl ⟨by decide, by decide⟩ (c_wholeDays (m := (a2 - 3660).toInt) (n := (a2 - 1).toInt) rfl rfl (by omega) (by omega) F ?_)
      intro w3 ew3
      show jX m_X11_guessedOf 99 0 0 35 [(6, .int 146399), (5, .int (a2 - 3660)), (0, .ref 31), (1, .int a1), (2, .int a2), (3, .int a3), (4, .int a4)] [.int w3] _ 0 0 _
      refine x_aloadn (x := 31) rfl rfl ?_
      refine x_iloadn (x := a1) rfl rfl ?_
      refine x_iloadn (x := a3) rfl rfl ?_
      refine x_iconst (v := 1) rfl ki_1 ?_
      refine x_iadd rfl ?_
      have c14 := jaddf (x := a3) (y := 1) (show (a3 : Int32).toInt = a3.toInt from rfl) (show (1 : Int32).toInt = 1 by decide) (by omega)
      refine x_iload (x := 146399) rfl rfl ?_
      refine x_iload (x := a4) rfl rfl ?_
      refine x_inv (N := m_X11_wholeDays) (As := [.int a1, .int (a3 + 1), .int 146399, .int a4]) (b := 31) (st := [.int w3]) (d' := 98) (mc := 0) (ms := 0) (host := "") 11 rfl t_X11_wholeDays ⟨Or.inl q_11_556, i_X11_wholeDays.1, i_X11_wholeDays.2⟩ ⟨by decide, rfl⟩ (congrArg Prod.fst (F.1 31 (11, 13) rfl rfl)) rfl (by decide) rfl rfl ⟨by decide, by decide⟩ (c_wholeDays (m := (a3 + 1).toInt) (n := 146399) rfl (by decide) (by omega) (by omega) F ?_)
      intro w4 ew4
      show jX m_X11_guessedOf 99 0 0 47 [(6, .int 146399), (5, .int (a2 - 3660)), (0, .ref 31), (1, .int a1), (2, .int a2), (3, .int a3), (4, .int a4)] [.int w4, .int w3] _ 0 0 _
      refine x_iadd rfl ?_
      have c15 := jaddf (x := w3) (y := w4) (show (w3 : Int32).toInt = w3.toInt from rfl) (show (w4 : Int32).toInt = w4.toInt from rfl) (by omega)
      refine x_i2l rfl ?_
      have c16 := jt_l (w3 + w4)
      refine x_lstore (ls' := [(7, .long ((w3 + w4).toInt64)), (6, .int 146399), (5, .int (a2 - 3660)), (0, .ref 31), (1, .int a1), (2, .int a2), (3, .int a3), (4, .int a4)]) rfl rfl rfl ?_
      refine x_lload (x := (w3 + w4).toInt64) rfl rfl ?_
      refine x_lconst (v := 0) rfl kl_0 ?_
      refine x_lcmp rfl ?_
      refine x_ifne (tgt := 60) rfl rfl (jlc_ne (jt_l (w3 + w4)) (show (0 : Int64).toInt = 0 by decide) ⟨fun c17 => ?_, fun c17 => ?_⟩)
      ·
        refine x_lconst (v := 0) rfl kl_0 ?_
        refine x_lstore (ls' := [(9, .long 0), (7, .long ((w3 + w4).toInt64)), (6, .int 146399), (5, .int (a2 - 3660)), (0, .ref 31), (1, .int a1), (2, .int a2), (3, .int a3), (4, .int a4)]) rfl rfl rfl ?_
        refine x_iconst (v := 0) rfl ki_0 ?_
        refine x_istore (ls' := [(11, .int 0), (9, .long 0), (7, .long ((w3 + w4).toInt64)), (6, .int 146399), (5, .int (a2 - 3660)), (0, .ref 31), (1, .int a1), (2, .int a2), (3, .int a3), (4, .int a4)]) rfl rfl rfl ?_
        refine x_iload (x := 0) rfl rfl ?_
        refine x_aloadn (x := 31) rfl rfl ?_
        refine x_getR (b := 32) 11 0 rfl f_11_10 rfl (congrArg Prod.fst (F.1 31 (11, 13) rfl rfl)) (F.2.1 3968 32 rfl rfl) ?_
        refine x_getR (b := 33) 1 0 rfl f_11_126 rfl (congrArg Prod.fst (F.1 32 (1, 20) rfl rfl)) (F.2.1 4096 33 rfl rfl) ?_
        refine y_getI (v := 0) 8 3 rfl f_11_142 rfl (congrArg Prod.fst (F.1 33 (8, 4) rfl rfl)) (F.2.2.1 4227 0 rfl rfl) ?_
        refine x_icge (tgt := 172) rfl rfl (br_t (by decide) ?_)
        refine x_ldc2 (v := 2) rfl z_11_559 ?_
        refine x_lload (x := 0) rfl rfl ?_
        refine x_lmul rfl ?_
        refine x_iloadn (x := a3) rfl rfl ?_
        refine x_iloadn (x := a2) rfl rfl ?_
        refine x_isub rfl ?_
        have c18 := jsubf (x := a3) (y := a2) (show (a3 : Int32).toInt = a3.toInt from rfl) (show (a2 : Int32).toInt = a2.toInt from rfl) (by omega)
        refine x_iconst (v := 1) rfl ki_1 ?_
        refine x_iadd rfl ?_
        have c19 := jaddf (x := a3 - a2) (y := 1) (show (a3 - a2 : Int32).toInt = (a3 - a2).toInt from rfl) (show (1 : Int32).toInt = 1 by decide) (by omega)
        refine x_i2l rfl ?_
        have c20 := jt_l ((a3 - a2) + 1)
        refine x_lmul rfl ?_
        refine x_lload (x := (w3 + w4).toInt64) rfl rfl ?_
        refine x_ladd rfl ?_
        refine x_ldc2 (v := 2) rfl z_11_559 ?_
        refine x_lload (x := (w3 + w4).toInt64) rfl rfl ?_
        refine x_lmul rfl ?_
        refine x_ldiv rfl (jd2_ne (by omega)) ?_
        refine y_l2i (v := 0) rfl (jfz (by omega)) ?_
        refine x_iret rfl rfl ?_
        exact hQ
      ·
        refine x_iconst (v := 0) rfl ki_0 ?_
        refine x_iret rfl rfl ?_
        exact hQ
  ·
    refine x_istore (ls' := [(5, .int 0), (0, .ref 31), (1, .int a1), (2, .int a2), (3, .int a3), (4, .int a4)]) rfl rfl rfl ?_
    refine x_ldc (v := 146399) rfl z_11_233 ?_
    refine x_iloadn (x := a3) rfl rfl ?_
    refine x_sipush (v := 3660) rfl ks_3660 ?_
    refine x_iadd rfl ?_
    have c21 := jaddf (x := a3) (y := 3660) (show (a3 : Int32).toInt = a3.toInt from rfl) (show (3660 : Int32).toInt = 3660 by decide) (by omega)
    refine x_mmin rfl q_11_553 (by decide) rfl (ti_lt (show (a3 + 3660 : Int32).toInt = (a3 + 3660).toInt from rfl) (show (146399 : Int32).toInt = 146399 by decide) ⟨fun c22 => ?_, fun c22 => ?_⟩)
    ·
      refine x_istore (ls' := [(6, .int (a3 + 3660)), (5, .int 0), (0, .ref 31), (1, .int a1), (2, .int a2), (3, .int a3), (4, .int a4)]) rfl rfl rfl ?_
      refine x_aloadn (x := 31) rfl rfl ?_
      refine x_iloadn (x := a1) rfl rfl ?_
      refine x_iload (x := 0) rfl rfl ?_
      refine x_iloadn (x := a2) rfl rfl ?_
      refine x_iconst (v := 1) rfl ki_1 ?_
      refine x_isub rfl ?_
      have c23 := jsubf (x := a2) (y := 1) (show (a2 : Int32).toInt = a2.toInt from rfl) (show (1 : Int32).toInt = 1 by decide) (by omega)
      refine x_iload (x := a4) rfl rfl ?_
      refine x_inv (N := m_X11_wholeDays) (As := [.int a1, .int 0, .int (a2 - 1), .int a4]) (b := 31) (st := []) (d' := 98) (mc := 0) (ms := 0) (host := "") 11 rfl t_X11_wholeDays ⟨Or.inl q_11_556, i_X11_wholeDays.1, i_X11_wholeDays.2⟩ ⟨by decide, rfl⟩ (congrArg Prod.fst (F.1 31 (11, 13) rfl rfl)) rfl (by decide) rfl rfl ⟨by decide, by decide⟩ (c_wholeDays (m := 0) (n := (a2 - 1).toInt) (by decide) rfl (by omega) (by omega) F ?_)
      intro w5 ew5
      show jX m_X11_guessedOf 99 0 0 35 [(6, .int (a3 + 3660)), (5, .int 0), (0, .ref 31), (1, .int a1), (2, .int a2), (3, .int a3), (4, .int a4)] [.int w5] _ 0 0 _
      refine x_aloadn (x := 31) rfl rfl ?_
      refine x_iloadn (x := a1) rfl rfl ?_
      refine x_iloadn (x := a3) rfl rfl ?_
      refine x_iconst (v := 1) rfl ki_1 ?_
      refine x_iadd rfl ?_
      have c24 := jaddf (x := a3) (y := 1) (show (a3 : Int32).toInt = a3.toInt from rfl) (show (1 : Int32).toInt = 1 by decide) (by omega)
      refine x_iload (x := a3 + 3660) rfl rfl ?_
      refine x_iload (x := a4) rfl rfl ?_
      refine x_inv (N := m_X11_wholeDays) (As := [.int a1, .int (a3 + 1), .int (a3 + 3660), .int a4]) (b := 31) (st := [.int w5]) (d' := 98) (mc := 0) (ms := 0) (host := "") 11 rfl t_X11_wholeDays ⟨Or.inl q_11_556, i_X11_wholeDays.1, i_X11_wholeDays.2⟩ ⟨by decide, rfl⟩ (congrArg Prod.fst (F.1 31 (11, 13) rfl rfl)) rfl (by decide) rfl rfl ⟨by decide, by decide⟩ (c_wholeDays (m := (a3 + 1).toInt) (n := (a3 + 3660).toInt) rfl rfl (by omega) (by omega) F ?_)
      intro w6 ew6
      show jX m_X11_guessedOf 99 0 0 47 [(6, .int (a3 + 3660)), (5, .int 0), (0, .ref 31), (1, .int a1), (2, .int a2), (3, .int a3), (4, .int a4)] [.int w6, .int w5] _ 0 0 _
      refine x_iadd rfl ?_
      have c25 := jaddf (x := w5) (y := w6) (show (w5 : Int32).toInt = w5.toInt from rfl) (show (w6 : Int32).toInt = w6.toInt from rfl) (by omega)
      refine x_i2l rfl ?_
      have c26 := jt_l (w5 + w6)
      refine x_lstore (ls' := [(7, .long ((w5 + w6).toInt64)), (6, .int (a3 + 3660)), (5, .int 0), (0, .ref 31), (1, .int a1), (2, .int a2), (3, .int a3), (4, .int a4)]) rfl rfl rfl ?_
      refine x_lload (x := (w5 + w6).toInt64) rfl rfl ?_
      refine x_lconst (v := 0) rfl kl_0 ?_
      refine x_lcmp rfl ?_
      refine x_ifne (tgt := 60) rfl rfl (jlc_ne (jt_l (w5 + w6)) (show (0 : Int64).toInt = 0 by decide) ⟨fun c27 => ?_, fun c27 => ?_⟩)
      ·
        refine x_lconst (v := 0) rfl kl_0 ?_
        refine x_lstore (ls' := [(9, .long 0), (7, .long ((w5 + w6).toInt64)), (6, .int (a3 + 3660)), (5, .int 0), (0, .ref 31), (1, .int a1), (2, .int a2), (3, .int a3), (4, .int a4)]) rfl rfl rfl ?_
        refine x_iconst (v := 0) rfl ki_0 ?_
        refine x_istore (ls' := [(11, .int 0), (9, .long 0), (7, .long ((w5 + w6).toInt64)), (6, .int (a3 + 3660)), (5, .int 0), (0, .ref 31), (1, .int a1), (2, .int a2), (3, .int a3), (4, .int a4)]) rfl rfl rfl ?_
        refine x_iload (x := 0) rfl rfl ?_
        refine x_aloadn (x := 31) rfl rfl ?_
        refine x_getR (b := 32) 11 0 rfl f_11_10 rfl (congrArg Prod.fst (F.1 31 (11, 13) rfl rfl)) (F.2.1 3968 32 rfl rfl) ?_
        refine x_getR (b := 33) 1 0 rfl f_11_126 rfl (congrArg Prod.fst (F.1 32 (1, 20) rfl rfl)) (F.2.1 4096 33 rfl rfl) ?_
        refine y_getI (v := 0) 8 3 rfl f_11_142 rfl (congrArg Prod.fst (F.1 33 (8, 4) rfl rfl)) (F.2.2.1 4227 0 rfl rfl) ?_
        refine x_icge (tgt := 172) rfl rfl (br_t (by decide) ?_)
        refine x_ldc2 (v := 2) rfl z_11_559 ?_
        refine x_lload (x := 0) rfl rfl ?_
        refine x_lmul rfl ?_
        refine x_iloadn (x := a3) rfl rfl ?_
        refine x_iloadn (x := a2) rfl rfl ?_
        refine x_isub rfl ?_
        have c28 := jsubf (x := a3) (y := a2) (show (a3 : Int32).toInt = a3.toInt from rfl) (show (a2 : Int32).toInt = a2.toInt from rfl) (by omega)
        refine x_iconst (v := 1) rfl ki_1 ?_
        refine x_iadd rfl ?_
        have c29 := jaddf (x := a3 - a2) (y := 1) (show (a3 - a2 : Int32).toInt = (a3 - a2).toInt from rfl) (show (1 : Int32).toInt = 1 by decide) (by omega)
        refine x_i2l rfl ?_
        have c30 := jt_l ((a3 - a2) + 1)
        refine x_lmul rfl ?_
        refine x_lload (x := (w5 + w6).toInt64) rfl rfl ?_
        refine x_ladd rfl ?_
        refine x_ldc2 (v := 2) rfl z_11_559 ?_
        refine x_lload (x := (w5 + w6).toInt64) rfl rfl ?_
        refine x_lmul rfl ?_
        refine x_ldiv rfl (jd2_ne (by omega)) ?_
        refine y_l2i (v := 0) rfl (jfz (by omega)) ?_
        refine x_iret rfl rfl ?_
        exact hQ
      ·
        refine x_iconst (v := 0) rfl ki_0 ?_
        refine x_iret rfl rfl ?_
        exact hQ
    ·
      refine x_istore (ls' := [(6, .int 146399), (5, .int 0), (0, .ref 31), (1, .int a1), (2, .int a2), (3, .int a3), (4, .int a4)]) rfl rfl rfl ?_
      refine x_aloadn (x := 31) rfl rfl ?_
      refine x_iloadn (x := a1) rfl rfl ?_
      refine x_iload (x := 0) rfl rfl ?_
      refine x_iloadn (x := a2) rfl rfl ?_
      refine x_iconst (v := 1) rfl ki_1 ?_
      refine x_isub rfl ?_
      have c31 := jsubf (x := a2) (y := 1) (show (a2 : Int32).toInt = a2.toInt from rfl) (show (1 : Int32).toInt = 1 by decide) (by omega)
      refine x_iload (x := a4) rfl rfl ?_
      refine x_inv (N := m_X11_wholeDays) (As := [.int a1, .int 0, .int (a2 - 1), .int a4]) (b := 31) (st := []) (d' := 98) (mc := 0) (ms := 0) (host := "") 11 rfl t_X11_wholeDays ⟨Or.inl q_11_556, i_X11_wholeDays.1, i_X11_wholeDays.2⟩ ⟨by decide, rfl⟩ (congrArg Prod.fst (F.1 31 (11, 13) rfl rfl)) rfl (by decide) rfl rfl ⟨by decide, by decide⟩ (c_wholeDays (m := 0) (n := (a2 - 1).toInt) (by decide) rfl (by omega) (by omega) F ?_)
      intro w7 ew7
      show jX m_X11_guessedOf 99 0 0 35 [(6, .int 146399), (5, .int 0), (0, .ref 31), (1, .int a1), (2, .int a2), (3, .int a3), (4, .int a4)] [.int w7] _ 0 0 _
      refine x_aloadn (x := 31) rfl rfl ?_
      refine x_iloadn (x := a1) rfl rfl ?_
      refine x_iloadn (x := a3) rfl rfl ?_
      refine x_iconst (v := 1) rfl ki_1 ?_
      refine x_iadd rfl ?_
      have c32 := jaddf (x := a3) (y := 1) (show (a3 : Int32).toInt = a3.toInt from rfl) (show (1 : Int32).toInt = 1 by decide) (by omega)
      refine x_iload (x := 146399) rfl rfl ?_
      refine x_iload (x := a4) rfl rfl ?_
      refine x_inv (N := m_X11_wholeDays) (As := [.int a1, .int (a3 + 1), .int 146399, .int a4]) (b := 31) (st := [.int w7]) (d' := 98) (mc := 0) (ms := 0) (host := "") 11 rfl t_X11_wholeDays ⟨Or.inl q_11_556, i_X11_wholeDays.1, i_X11_wholeDays.2⟩ ⟨by decide, rfl⟩ (congrArg Prod.fst (F.1 31 (11, 13) rfl rfl)) rfl (by decide) rfl rfl ⟨by decide, by decide⟩ (c_wholeDays (m := (a3 + 1).toInt) (n := 146399) rfl (by decide) (by omega) (by omega) F ?_)
      intro w8 ew8
      show jX m_X11_guessedOf 99 0 0 47 [(6, .int 146399), (5, .int 0), (0, .ref 31), (1, .int a1), (2, .int a2), (3, .int a3), (4, .int a4)] [.int w8, .int w7] _ 0 0 _
      refine x_iadd rfl ?_
      have c33 := jaddf (x := w7) (y := w8) (show (w7 : Int32).toInt = w7.toInt from rfl) (show (w8 : Int32).toInt = w8.toInt from rfl) (by omega)
      refine x_i2l rfl ?_
      have c34 := jt_l (w7 + w8)
      refine x_lstore (ls' := [(7, .long ((w7 + w8).toInt64)), (6, .int 146399), (5, .int 0), (0, .ref 31), (1, .int a1), (2, .int a2), (3, .int a3), (4, .int a4)]) rfl rfl rfl ?_
      refine x_lload (x := (w7 + w8).toInt64) rfl rfl ?_
      refine x_lconst (v := 0) rfl kl_0 ?_
      refine x_lcmp rfl ?_
      refine x_ifne (tgt := 60) rfl rfl (jlc_ne (jt_l (w7 + w8)) (show (0 : Int64).toInt = 0 by decide) ⟨fun c35 => ?_, fun c35 => ?_⟩)
      ·
        refine x_lconst (v := 0) rfl kl_0 ?_
        refine x_lstore (ls' := [(9, .long 0), (7, .long ((w7 + w8).toInt64)), (6, .int 146399), (5, .int 0), (0, .ref 31), (1, .int a1), (2, .int a2), (3, .int a3), (4, .int a4)]) rfl rfl rfl ?_
        refine x_iconst (v := 0) rfl ki_0 ?_
        refine x_istore (ls' := [(11, .int 0), (9, .long 0), (7, .long ((w7 + w8).toInt64)), (6, .int 146399), (5, .int 0), (0, .ref 31), (1, .int a1), (2, .int a2), (3, .int a3), (4, .int a4)]) rfl rfl rfl ?_
        refine x_iload (x := 0) rfl rfl ?_
        refine x_aloadn (x := 31) rfl rfl ?_
        refine x_getR (b := 32) 11 0 rfl f_11_10 rfl (congrArg Prod.fst (F.1 31 (11, 13) rfl rfl)) (F.2.1 3968 32 rfl rfl) ?_
        refine x_getR (b := 33) 1 0 rfl f_11_126 rfl (congrArg Prod.fst (F.1 32 (1, 20) rfl rfl)) (F.2.1 4096 33 rfl rfl) ?_
        refine y_getI (v := 0) 8 3 rfl f_11_142 rfl (congrArg Prod.fst (F.1 33 (8, 4) rfl rfl)) (F.2.2.1 4227 0 rfl rfl) ?_
        refine x_icge (tgt := 172) rfl rfl (br_t (by decide) ?_)
        refine x_ldc2 (v := 2) rfl z_11_559 ?_
        refine x_lload (x := 0) rfl rfl ?_
        refine x_lmul rfl ?_
        refine x_iloadn (x := a3) rfl rfl ?_
        refine x_iloadn (x := a2) rfl rfl ?_
        refine x_isub rfl ?_
        have c36 := jsubf (x := a3) (y := a2) (show (a3 : Int32).toInt = a3.toInt from rfl) (show (a2 : Int32).toInt = a2.toInt from rfl) (by omega)
        refine x_iconst (v := 1) rfl ki_1 ?_
        refine x_iadd rfl ?_
        have c37 := jaddf (x := a3 - a2) (y := 1) (show (a3 - a2 : Int32).toInt = (a3 - a2).toInt from rfl) (show (1 : Int32).toInt = 1 by decide) (by omega)
        refine x_i2l rfl ?_
        have c38 := jt_l ((a3 - a2) + 1)
        refine x_lmul rfl ?_
        refine x_lload (x := (w7 + w8).toInt64) rfl rfl ?_
        refine x_ladd rfl ?_
        refine x_ldc2 (v := 2) rfl z_11_559 ?_
        refine x_lload (x := (w7 + w8).toInt64) rfl rfl ?_
        refine x_lmul rfl ?_
        refine x_ldiv rfl (jd2_ne (by omega)) ?_
        refine y_l2i (v := 0) rfl (jfz (by omega)) ?_
        refine x_iret rfl rfl ?_
        exact hQ
      ·
        refine x_iconst (v := 0) rfl ki_0 ?_
        refine x_iret rfl rfl ?_
        exact hQ
set_option maxRecDepth 100000 in
set_option maxHeartbeats 40000000 in
theorem mf_loop {a1 a2 a3 : Int32} {h : jH} {Q : Option Value → jH → Prop} (ha : 0 ≤ a2.toInt ∧ a2.toInt ≤ a3.toInt ∧ a3.toInt ≤ 146399) (F : jFe jXIm jXAm 125 h) (hQ : Q (some (.int 0)) h) : ∀ (r : Nat) (x : Int32) (D : Int64), (r : Int) + x.toInt = a3.toInt + 3661 → -4000 ≤ x.toInt → 0 ≤ D.toInt ∧ D.toInt + r ≤ 200000 → jX m_X12_guessFilled 99 0 0 13 [(8, .int x), (6, .long 0), (4, .long D), (0, .ref 125), (1, .int a1), (2, .int a2), (3, .int a3)] [] h 0 0 Q := by
  intro r
  induction r with
  | zero =>
    intro x D hr hx hD
    refine x_iload (x := x) rfl rfl ?_
    refine x_iloadn (x := a3) rfl rfl ?_
    refine x_sipush (v := 3660) rfl ks_3660 ?_
    refine x_iadd rfl ?_
    have c1 := jaddf (x := a3) (y := 3660) (show (a3 : Int32).toInt = a3.toInt from rfl) (show (3660 : Int32).toInt = 3660 by decide) (by omega)
    refine x_icgt (tgt := 67) rfl rfl (ti_gt (show (x : Int32).toInt = x.toInt from rfl) (show (a3 + 3660 : Int32).toInt = (a3 + 3660).toInt from rfl) ⟨fun c2 => ?_, fun c2 => ?_⟩)
    ·
      refine x_iconst (v := 0) rfl ki_0 ?_
      refine x_istore (ls' := [(8, .int 0), (6, .long 0), (4, .long D), (0, .ref 125), (1, .int a1), (2, .int a2), (3, .int a3)]) rfl rfl rfl ?_
      refine x_iload (x := 0) rfl rfl ?_
      refine x_aloadn (x := 125) rfl rfl ?_
      refine x_getR (b := 126) 12 2 rfl f_12_8 rfl (congrArg Prod.fst (F.1 125 (12, 92) rfl rfl)) (F.2.1 16002 126 rfl rfl) ?_
      refine x_iconst (v := 0) rfl ki_0 ?_
      refine y_iald (v := 0) (N := 50660) 0 rfl (F.1 126 (100, 50660) rfl rfl) (jinb_of (by decide)) (by decide) (F.2.2.2.1 126 rfl rfl rfl 0).1 ?_
      refine x_icge (tgt := 185) rfl rfl (br_t (by decide) ?_)
      refine x_lload (x := D) rfl rfl ?_
      refine x_lconst (v := 0) rfl kl_0 ?_
      refine x_lcmp rfl ?_
      refine x_ifne (tgt := 196) rfl rfl (jlc_ne (show (D : Int64).toInt = D.toInt from rfl) (show (0 : Int64).toInt = 0 by decide) ⟨fun c3 => ?_, fun c3 => ?_⟩)
      ·
        refine x_ldc2 (v := 2) rfl z_12_482 ?_
        refine x_lload (x := 0) rfl rfl ?_
        refine x_lmul rfl ?_
        refine x_iloadn (x := a3) rfl rfl ?_
        refine x_iloadn (x := a2) rfl rfl ?_
        refine x_isub rfl ?_
        have c4 := jsubf (x := a3) (y := a2) (show (a3 : Int32).toInt = a3.toInt from rfl) (show (a2 : Int32).toInt = a2.toInt from rfl) (by omega)
        refine x_iconst (v := 1) rfl ki_1 ?_
        refine x_iadd rfl ?_
        have c5 := jaddf (x := a3 - a2) (y := 1) (show (a3 - a2 : Int32).toInt = (a3 - a2).toInt from rfl) (show (1 : Int32).toInt = 1 by decide) (by omega)
        refine x_i2l rfl ?_
        have c6 := jt_l ((a3 - a2) + 1)
        refine x_lmul rfl ?_
        refine x_lload (x := D) rfl rfl ?_
        refine x_ladd rfl ?_
        refine x_ldc2 (v := 2) rfl z_12_482 ?_
        refine x_lload (x := D) rfl rfl ?_
        refine x_lmul rfl ?_
        refine x_ldiv rfl (jd2_ne (by omega)) ?_
        refine y_l2i (v := 0) rfl (jfz (by omega)) ?_
        refine x_iret rfl rfl ?_
        exact hQ
      ·
        refine x_iconst (v := 0) rfl ki_0 ?_
        refine x_goto (tgt := 220) rfl rfl ?_
        refine x_iret rfl rfl ?_
        exact hQ
    ·
      exfalso
      omega
  | succ r ih =>
    intro x D hr hx hD
    refine x_iload (x := x) rfl rfl ?_
    refine x_iloadn (x := a3) rfl rfl ?_
    refine x_sipush (v := 3660) rfl ks_3660 ?_
    refine x_iadd rfl ?_
    have c1 := jaddf (x := a3) (y := 3660) (show (a3 : Int32).toInt = a3.toInt from rfl) (show (3660 : Int32).toInt = 3660 by decide) (by omega)
    refine x_icgt (tgt := 67) rfl rfl (ti_gt (show (x : Int32).toInt = x.toInt from rfl) (show (a3 + 3660 : Int32).toInt = (a3 + 3660).toInt from rfl) ⟨fun c2 => ?_, fun c2 => ?_⟩)
    ·
      refine x_iconst (v := 0) rfl ki_0 ?_
      refine x_istore (ls' := [(8, .int 0), (6, .long 0), (4, .long D), (0, .ref 125), (1, .int a1), (2, .int a2), (3, .int a3)]) rfl rfl rfl ?_
      refine x_iload (x := 0) rfl rfl ?_
      refine x_aloadn (x := 125) rfl rfl ?_
      refine x_getR (b := 126) 12 2 rfl f_12_8 rfl (congrArg Prod.fst (F.1 125 (12, 92) rfl rfl)) (F.2.1 16002 126 rfl rfl) ?_
      refine x_iconst (v := 0) rfl ki_0 ?_
      refine y_iald (v := 0) (N := 50660) 0 rfl (F.1 126 (100, 50660) rfl rfl) (jinb_of (by decide)) (by decide) (F.2.2.2.1 126 rfl rfl rfl 0).1 ?_
      refine x_icge (tgt := 185) rfl rfl (br_t (by decide) ?_)
      refine x_lload (x := D) rfl rfl ?_
      refine x_lconst (v := 0) rfl kl_0 ?_
      refine x_lcmp rfl ?_
      refine x_ifne (tgt := 196) rfl rfl (jlc_ne (show (D : Int64).toInt = D.toInt from rfl) (show (0 : Int64).toInt = 0 by decide) ⟨fun c3 => ?_, fun c3 => ?_⟩)
      ·
        refine x_ldc2 (v := 2) rfl z_12_482 ?_
        refine x_lload (x := 0) rfl rfl ?_
        refine x_lmul rfl ?_
        refine x_iloadn (x := a3) rfl rfl ?_
        refine x_iloadn (x := a2) rfl rfl ?_
        refine x_isub rfl ?_
        have c4 := jsubf (x := a3) (y := a2) (show (a3 : Int32).toInt = a3.toInt from rfl) (show (a2 : Int32).toInt = a2.toInt from rfl) (by omega)
        refine x_iconst (v := 1) rfl ki_1 ?_
        refine x_iadd rfl ?_
        have c5 := jaddf (x := a3 - a2) (y := 1) (show (a3 - a2 : Int32).toInt = (a3 - a2).toInt from rfl) (show (1 : Int32).toInt = 1 by decide) (by omega)
        refine x_i2l rfl ?_
        have c6 := jt_l ((a3 - a2) + 1)
        refine x_lmul rfl ?_
        refine x_lload (x := D) rfl rfl ?_
        refine x_ladd rfl ?_
        refine x_ldc2 (v := 2) rfl z_12_482 ?_
        refine x_lload (x := D) rfl rfl ?_
        refine x_lmul rfl ?_
        refine x_ldiv rfl (jd2_ne (by omega)) ?_
        refine y_l2i (v := 0) rfl (jfz (by omega)) ?_
        refine x_iret rfl rfl ?_
        exact hQ
      ·
        refine x_iconst (v := 0) rfl ki_0 ?_
        refine x_goto (tgt := 220) rfl rfl ?_
        refine x_iret rfl rfl ?_
        exact hQ
    ·
      refine x_iload (x := x) rfl rfl ?_
      refine x_inst (N := m_X12_isDay) (As := [.int x]) (st := []) (d' := 98) (mc := 0) (ms := 0) (host := "") rfl t_X12_isDay ⟨Or.inl q_12_273, s_X12_isDay⟩ rfl (by decide) rfl rfl ⟨by decide, by decide⟩ (c_X12_isDay (x := x) ?_)
      show jX m_X12_guessFilled 99 0 0 28 [(8, .int x), (6, .long 0), (4, .long D), (0, .ref 125), (1, .int a1), (2, .int a2), (3, .int a3)] [.int (jp (0 ≤ x.toInt ∧ x.toInt ≤ 146399))] _ 0 0 _
      refine x_ifeq (tgt := 61) rfl rfl (jpe ⟨fun c7 => ?_, fun c7 => ?_⟩)
      ·
        refine x_iinc (x := x) (v := x + Int32.ofInt 1) (ls' := [(8, .int (x + Int32.ofInt 1)), (6, .long 0), (4, .long D), (0, .ref 125), (1, .int a1), (2, .int a2), (3, .int a3)]) rfl rfl rfl rfl rfl ?_
        refine x_goto (tgt := 13) rfl rfl ?_
        have hx1 := jinc1 (x := x) (by omega)
        exact jX.less (by simp) (ih (x + Int32.ofInt 1) (D) (by omega) (by omega) (by omega))
      ·
        refine x_iload (x := x) rfl rfl ?_
        refine x_iloadn (x := a2) rfl rfl ?_
        refine x_iclt (tgt := 43) rfl rfl (ti_lt (show (x : Int32).toInt = x.toInt from rfl) (show (a2 : Int32).toInt = a2.toInt from rfl) ⟨fun c8 => ?_, fun c8 => ?_⟩)
        ·
          refine x_aloadn (x := 125) rfl rfl ?_
          refine x_iloadn (x := a1) rfl rfl ?_
          refine x_iload (x := x) rfl rfl ?_
          refine x_iload (x := x) rfl rfl ?_
          refine x_inv (N := m_X12_isTorn) (As := [.int a1, .int x, .int x]) (b := 125) (st := []) (d' := 98) (mc := 0) (ms := 0) (host := "") 12 rfl t_X12_isTorn ⟨Or.inl q_12_474, i_X12_isTorn.1, i_X12_isTorn.2⟩ ⟨by decide, rfl⟩ (congrArg Prod.fst (F.1 125 (12, 92) rfl rfl)) rfl (by decide) rfl rfl ⟨by decide, by decide⟩ (jC.of rfl k_X12_isTorn rfl ?_)
          show jX m_X12_isTorn 98 0 0 0 [(0, .ref 125), (1, .int a1), (2, .int x), (3, .int x)] [] _ 0 0 _
          refine x_iconst (v := 0) rfl ki_0 ?_
          refine x_istore (ls' := [(4, .int 0), (0, .ref 125), (1, .int a1), (2, .int x), (3, .int x)]) rfl rfl rfl ?_
          refine x_iconst (v := 0) rfl ki_0 ?_
          refine x_istore (ls' := [(5, .int 0), (4, .int 0), (0, .ref 125), (1, .int a1), (2, .int x), (3, .int x)]) rfl rfl rfl ?_
          refine x_iload (x := 0) rfl rfl ?_
          refine x_aloadn (x := 125) rfl rfl ?_
          refine x_getR (b := 126) 12 2 rfl f_12_8 rfl (congrArg Prod.fst (F.1 125 (12, 92) rfl rfl)) (F.2.1 16002 126 rfl rfl) ?_
          refine x_iconst (v := 3) rfl ki_3 ?_
          refine y_iald (v := 0) (N := 50660) 3 rfl (F.1 126 (100, 50660) rfl rfl) (jinb_of (by decide)) (by decide) (F.2.2.2.1 126 rfl rfl rfl 3).1 ?_
          refine x_icge (tgt := 98) rfl rfl (br_t (by decide) ?_)
          refine x_iload (x := 0) rfl rfl ?_
          refine x_zret rfl rfl (by first | decide | exact jp_01 _) ?_
          show jX m_X12_guessFilled 99 0 0 52 [(8, .int x), (6, .long 0), (4, .long D), (0, .ref 125), (1, .int a1), (2, .int a2), (3, .int a3)] [.int 0] _ 0 0 _
          refine x_ifne (tgt := 61) rfl rfl (bn_f (by decide) ?_)
          refine x_lload (x := D) rfl rfl ?_
          refine x_lconst (v := 1) rfl kl_1 ?_
          refine x_ladd rfl ?_
          refine x_lstore (ls' := [(4, .long (D + 1)), (8, .int x), (6, .long 0), (0, .ref 125), (1, .int a1), (2, .int a2), (3, .int a3)]) rfl rfl rfl ?_
          refine x_iinc (x := x) (v := x + Int32.ofInt 1) (ls' := [(8, .int (x + Int32.ofInt 1)), (4, .long (D + 1)), (6, .long 0), (0, .ref 125), (1, .int a1), (2, .int a2), (3, .int a3)]) rfl rfl rfl rfl rfl ?_
          refine x_goto (tgt := 13) rfl rfl ?_
          have hx1 := jinc1 (x := x) (by omega)
          have hd1 := jlinc (x := D) (by omega)
          exact jX.less (by simp) (ih (x + Int32.ofInt 1) (D + 1) (by omega) (by omega) (by omega))
        ·
          refine x_iload (x := x) rfl rfl ?_
          refine x_iloadn (x := a3) rfl rfl ?_
          refine x_icle (tgt := 61) rfl rfl (ti_le (show (x : Int32).toInt = x.toInt from rfl) (show (a3 : Int32).toInt = a3.toInt from rfl) ⟨fun c9 => ?_, fun c9 => ?_⟩)
          ·
            refine x_iinc (x := x) (v := x + Int32.ofInt 1) (ls' := [(8, .int (x + Int32.ofInt 1)), (6, .long 0), (4, .long D), (0, .ref 125), (1, .int a1), (2, .int a2), (3, .int a3)]) rfl rfl rfl rfl rfl ?_
            refine x_goto (tgt := 13) rfl rfl ?_
            have hx1 := jinc1 (x := x) (by omega)
            exact jX.less (by simp) (ih (x + Int32.ofInt 1) (D) (by omega) (by omega) (by omega))
          ·
            refine x_aloadn (x := 125) rfl rfl ?_
            refine x_iloadn (x := a1) rfl rfl ?_
            refine x_iload (x := x) rfl rfl ?_
            refine x_iload (x := x) rfl rfl ?_
            refine x_inv (N := m_X12_isTorn) (As := [.int a1, .int x, .int x]) (b := 125) (st := []) (d' := 98) (mc := 0) (ms := 0) (host := "") 12 rfl t_X12_isTorn ⟨Or.inl q_12_474, i_X12_isTorn.1, i_X12_isTorn.2⟩ ⟨by decide, rfl⟩ (congrArg Prod.fst (F.1 125 (12, 92) rfl rfl)) rfl (by decide) rfl rfl ⟨by decide, by decide⟩ (jC.of rfl k_X12_isTorn rfl ?_)
            show jX m_X12_isTorn 98 0 0 0 [(0, .ref 125), (1, .int a1), (2, .int x), (3, .int x)] [] _ 0 0 _
            refine x_iconst (v := 0) rfl ki_0 ?_
            refine x_istore (ls' := [(4, .int 0), (0, .ref 125), (1, .int a1), (2, .int x), (3, .int x)]) rfl rfl rfl ?_
            refine x_iconst (v := 0) rfl ki_0 ?_
            refine x_istore (ls' := [(5, .int 0), (4, .int 0), (0, .ref 125), (1, .int a1), (2, .int x), (3, .int x)]) rfl rfl rfl ?_
            refine x_iload (x := 0) rfl rfl ?_
            refine x_aloadn (x := 125) rfl rfl ?_
            refine x_getR (b := 126) 12 2 rfl f_12_8 rfl (congrArg Prod.fst (F.1 125 (12, 92) rfl rfl)) (F.2.1 16002 126 rfl rfl) ?_
            refine x_iconst (v := 3) rfl ki_3 ?_
            refine y_iald (v := 0) (N := 50660) 3 rfl (F.1 126 (100, 50660) rfl rfl) (jinb_of (by decide)) (by decide) (F.2.2.2.1 126 rfl rfl rfl 3).1 ?_
            refine x_icge (tgt := 98) rfl rfl (br_t (by decide) ?_)
            refine x_iload (x := 0) rfl rfl ?_
            refine x_zret rfl rfl (by first | decide | exact jp_01 _) ?_
            show jX m_X12_guessFilled 99 0 0 52 [(8, .int x), (6, .long 0), (4, .long D), (0, .ref 125), (1, .int a1), (2, .int a2), (3, .int a3)] [.int 0] _ 0 0 _
            refine x_ifne (tgt := 61) rfl rfl (bn_f (by decide) ?_)
            refine x_lload (x := D) rfl rfl ?_
            refine x_lconst (v := 1) rfl kl_1 ?_
            refine x_ladd rfl ?_
            refine x_lstore (ls' := [(4, .long (D + 1)), (8, .int x), (6, .long 0), (0, .ref 125), (1, .int a1), (2, .int a2), (3, .int a3)]) rfl rfl rfl ?_
            refine x_iinc (x := x) (v := x + Int32.ofInt 1) (ls' := [(8, .int (x + Int32.ofInt 1)), (4, .long (D + 1)), (6, .long 0), (0, .ref 125), (1, .int a1), (2, .int a2), (3, .int a3)]) rfl rfl rfl rfl rfl ?_
            refine x_goto (tgt := 13) rfl rfl ?_
            have hx1 := jinc1 (x := x) (by omega)
            have hd1 := jlinc (x := D) (by omega)
            exact jX.less (by simp) (ih (x + Int32.ofInt 1) (D + 1) (by omega) (by omega) (by omega))
set_option maxRecDepth 100000 in
set_option maxHeartbeats 40000000 in
theorem c_guessFilled {a1 a2 a3 : Int32} {h : jH} {Q : Option Value → jH → Prop} (ha : 0 ≤ a2.toInt ∧ a2.toInt ≤ a3.toInt ∧ a3.toInt ≤ 146399) (F : jFe jXIm jXAm 125 h) (hQ : Q (some (.int 0)) h) : jC m_X12_guessFilled 99 0 0 [.ref 125, .int a1, .int a2, .int a3] h Q := by
  have z0 : (0 : Int64).toInt = 0 := by decide
  refine jC.of rfl k_X12_guessFilled rfl ?_
  show jX m_X12_guessFilled 99 0 0 0 [(0, .ref 125), (1, .int a1), (2, .int a2), (3, .int a3)] [] _ 0 0 _
  refine x_lconst (v := 0) rfl kl_0 ?_
  refine x_lstore (ls' := [(4, .long 0), (0, .ref 125), (1, .int a1), (2, .int a2), (3, .int a3)]) rfl rfl rfl ?_
  refine x_lconst (v := 0) rfl kl_0 ?_
  refine x_lstore (ls' := [(6, .long 0), (4, .long 0), (0, .ref 125), (1, .int a1), (2, .int a2), (3, .int a3)]) rfl rfl rfl ?_
  refine x_iloadn (x := a2) rfl rfl ?_
  refine x_sipush (v := 3660) rfl ks_3660 ?_
  refine x_isub rfl ?_
  have c1 := jsubf (x := a2) (y := 3660) (show (a2 : Int32).toInt = a2.toInt from rfl) (show (3660 : Int32).toInt = 3660 by decide) (by omega)
  refine x_istore (ls' := [(8, .int (a2 - 3660)), (6, .long 0), (4, .long 0), (0, .ref 125), (1, .int a1), (2, .int a2), (3, .int a3)]) rfl rfl rfl ?_
  exact mf_loop ha F hQ (a3.toInt - a2.toInt + 7321).toNat _ _ (by omega) (by omega) (by omega)
set_option maxRecDepth 100000 in
set_option maxHeartbeats 40000000 in
theorem px_fill (a1 a2 a3 a4 a5 : Int32) {xs : Nat → Int32} {h : jH} {Q : Option Value → jH → Prop} (F : jFb 31 h) (O : jOl 7 xs h) (hQ : ∀ h', jFb 125 h' → jOl 7 xs h' → Q (some (.int (sp_fill a1 a2 a3 a4 a5))) h') : jC m_X11_fill 100 0 0 [.ref 31, .int a1, .int a2, .int a3, .int a4, .int a5] h Q := by
  have FM := jFb_up 125 rfl F
  refine jC.of rfl k_X11_fill rfl ?_
  show jX m_X11_fill 100 0 0 0 [(0, .ref 31), (1, .int a1), (2, .int a2), (3, .int a3), (4, .int a4), (5, .int a5)] [] _ 0 0 _
  refine x_iloadn (x := a1) rfl rfl ?_
  refine x_inst (N := m_X11_isBook) (As := [.int a1]) (st := []) (d' := 99) (mc := 0) (ms := 0) (host := "") rfl t_X11_isBook ⟨Or.inl q_11_112, s_X11_isBook⟩ rfl (by decide) rfl rfl ⟨by decide, by decide⟩ (c_X11_isBook (x := a1) ?_)
  show jX m_X11_fill 100 0 0 4 [(0, .ref 31), (1, .int a1), (2, .int a2), (3, .int a3), (4, .int a4), (5, .int a5)] [.int (jp (0 ≤ a1.toInt ∧ a1.toInt ≤ 5))] _ 0 0 _
  refine x_ifeq (tgt := 45) rfl rfl (jpe ⟨fun c1 => ?_, fun c1 => ?_⟩)
  ·
    refine x_iconst (v := (-1)) rfl ki_m1 ?_
    refine x_iret rfl rfl ?_
    exact jqe (show sp_fill a1 a2 a3 a4 a5 = (-1) by unfold sp_fill; (repeat' split) <;> first | rfl | (exfalso; omega)) (hQ _ FM O)
  ·
    refine x_iloadn (x := a2) rfl rfl ?_
    refine x_inst (N := m_X11_isDay) (As := [.int a2]) (st := []) (d' := 99) (mc := 0) (ms := 0) (host := "") rfl t_X11_isDay ⟨Or.inl q_11_115, s_X11_isDay⟩ rfl (by decide) rfl rfl ⟨by decide, by decide⟩ (c_X11_isDay (x := a2) ?_)
    show jX m_X11_fill 100 0 0 11 [(0, .ref 31), (1, .int a1), (2, .int a2), (3, .int a3), (4, .int a4), (5, .int a5)] [.int (jp (0 ≤ a2.toInt ∧ a2.toInt ≤ 146399))] _ 0 0 _
    refine x_ifeq (tgt := 45) rfl rfl (jpe ⟨fun c2 => ?_, fun c2 => ?_⟩)
    ·
      refine x_iconst (v := (-1)) rfl ki_m1 ?_
      refine x_iret rfl rfl ?_
      exact jqe (show sp_fill a1 a2 a3 a4 a5 = (-1) by unfold sp_fill; (repeat' split) <;> first | rfl | (exfalso; omega)) (hQ _ FM O)
    ·
      refine x_iloadn (x := a3) rfl rfl ?_
      refine x_inst (N := m_X11_isDay) (As := [.int a3]) (st := []) (d' := 99) (mc := 0) (ms := 0) (host := "") rfl t_X11_isDay ⟨Or.inl q_11_115, s_X11_isDay⟩ rfl (by decide) rfl rfl ⟨by decide, by decide⟩ (c_X11_isDay (x := a3) ?_)
      show jX m_X11_fill 100 0 0 18 [(0, .ref 31), (1, .int a1), (2, .int a2), (3, .int a3), (4, .int a4), (5, .int a5)] [.int (jp (0 ≤ a3.toInt ∧ a3.toInt ≤ 146399))] _ 0 0 _
      refine x_ifeq (tgt := 45) rfl rfl (jpe ⟨fun c3 => ?_, fun c3 => ?_⟩)
      ·
        refine x_iconst (v := (-1)) rfl ki_m1 ?_
        refine x_iret rfl rfl ?_
        exact jqe (show sp_fill a1 a2 a3 a4 a5 = (-1) by unfold sp_fill; (repeat' split) <;> first | rfl | (exfalso; omega)) (hQ _ FM O)
      ·
        refine x_iloadn (x := a3) rfl rfl ?_
        refine x_iloadn (x := a2) rfl rfl ?_
        refine x_iclt (tgt := 45) rfl rfl (ti_lt (show (a3 : Int32).toInt = a3.toInt from rfl) (show (a2 : Int32).toInt = a2.toInt from rfl) ⟨fun c4 => ?_, fun c4 => ?_⟩)
        ·
          refine x_iconst (v := (-1)) rfl ki_m1 ?_
          refine x_iret rfl rfl ?_
          exact jqe (show sp_fill a1 a2 a3 a4 a5 = (-1) by unfold sp_fill; (repeat' split) <;> first | rfl | (exfalso; omega)) (hQ _ FM O)
        ·
          refine x_iload (x := a4) rfl rfl ?_
          refine x_inst (N := m_X11_isDay) (As := [.int a4]) (st := []) (d' := 99) (mc := 0) (ms := 0) (host := "") rfl t_X11_isDay ⟨Or.inl q_11_115, s_X11_isDay⟩ rfl (by decide) rfl rfl ⟨by decide, by decide⟩ (c_X11_isDay (x := a4) ?_)
          show jX m_X11_fill 100 0 0 31 [(0, .ref 31), (1, .int a1), (2, .int a2), (3, .int a3), (4, .int a4), (5, .int a5)] [.int (jp (0 ≤ a4.toInt ∧ a4.toInt ≤ 146399))] _ 0 0 _
          refine x_ifeq (tgt := 45) rfl rfl (jpe ⟨fun c5 => ?_, fun c5 => ?_⟩)
          ·
            refine x_iconst (v := (-1)) rfl ki_m1 ?_
            refine x_iret rfl rfl ?_
            exact jqe (show sp_fill a1 a2 a3 a4 a5 = (-1) by unfold sp_fill; (repeat' split) <;> first | rfl | (exfalso; omega)) (hQ _ FM O)
          ·
            refine x_iload (x := a5) rfl rfl ?_
            refine x_iflt (tgt := 45) rfl rfl (ti_lt (show (a5 : Int32).toInt = a5.toInt from rfl) (show (0 : Int32).toInt = 0 by decide) ⟨fun c6 => ?_, fun c6 => ?_⟩)
            ·
              refine x_iconst (v := (-1)) rfl ki_m1 ?_
              refine x_iret rfl rfl ?_
              exact jqe (show sp_fill a1 a2 a3 a4 a5 = (-1) by unfold sp_fill; (repeat' split) <;> first | rfl | (exfalso; omega)) (hQ _ FM O)
            ·
              refine x_iload (x := a5) rfl rfl ?_
              refine x_iconst (v := 2) rfl ki_2 ?_
              refine x_icle (tgt := 47) rfl rfl (ti_le (show (a5 : Int32).toInt = a5.toInt from rfl) (show (2 : Int32).toInt = 2 by decide) ⟨fun c7 => ?_, fun c7 => ?_⟩)
              ·
                refine x_iload (x := a5) rfl rfl ?_
                refine x_iconst (v := 2) rfl ki_2 ?_
                refine x_icne (tgt := 63) rfl rfl (ti_ne (show (a5 : Int32).toInt = a5.toInt from rfl) (show (2 : Int32).toInt = 2 by decide) ⟨fun c8 => ?_, fun c8 => ?_⟩)
                ·
                  refine x_aloadn (x := 31) rfl rfl ?_
                  refine x_getR (b := 78) 11 4 rfl f_11_41 rfl (congrArg Prod.fst (F.1 31 (11, 13) rfl rfl)) (F.2.1 3972 78 rfl rfl) ?_
                  refine x_iload (x := a4) rfl rfl ?_
                  refine x_inv (N := m_X7_asKnown) (As := [.int a4]) (b := 78) (st := []) (d' := 99) (mc := 0) (ms := 0) (host := "") 7 rfl t_X7_asKnown ⟨Or.inl q_11_240, i_X7_asKnown.1, i_X7_asKnown.2⟩ ⟨by decide, rfl⟩ (congrArg Prod.fst (F.1 78 (7, 16) rfl rfl)) rfl (by decide) rfl rfl ⟨by decide, by decide⟩ (jC.of rfl k_X7_asKnown rfl ?_)
                  show jX m_X7_asKnown 99 0 0 0 [(0, .ref 78), (1, .int a4)] [] _ 0 0 _
                  refine x_aloadn (x := 78) rfl rfl ?_
                  refine x_getR (b := 86) 7 15 rfl f_7_52 rfl (congrArg Prod.fst (F.1 78 (7, 16) rfl rfl)) (F.2.1 9999 86 rfl rfl) ?_
                  refine x_iloadn (x := a4) rfl rfl ?_
                  refine x_iconst (v := 0) rfl ki_0 ?_
                  refine x_aloadn (x := 78) rfl rfl ?_
                  refine x_getR (b := 32) 7 0 rfl f_7_55 rfl (congrArg Prod.fst (F.1 78 (7, 16) rfl rfl)) (F.2.1 9984 32 rfl rfl) ?_
                  refine y_getI (v := 1) 1 19 rfl f_7_140 rfl (congrArg Prod.fst (F.1 32 (1, 20) rfl rfl)) (F.2.2.1 4115 1 rfl rfl) ?_
                  refine x_inst (N := m_X11_isFresh) (As := [.ref 86, .int a4, .int 0, .int 1]) (st := []) (d' := 98) (mc := 0) (ms := 0) (host := "ParishChest") rfl t_X11_isFresh ⟨Or.inr q_7_143, s_X11_isFresh⟩ rfl (by decide) rfl rfl ⟨by decide, by decide⟩ (jC.of rfl k_X11_isFresh rfl ?_)
                  show jX m_X11_isFresh 98 0 0 0 [(0, .ref 86), (1, .int a4), (2, .int 0), (3, .int 1)] [] _ 0 0 _
                  refine x_aloadn (x := 86) rfl rfl ?_
                  refine y_alen (N := 3) (v := 3) rfl (F.1 86 (100, 3) rfl rfl) (by decide) (by decide) ?_
                  refine x_iconst (v := 3) rfl ki_3 ?_
                  refine x_icge (tgt := 8) rfl rfl (br_t (by decide) ?_)
                  refine x_aloadn (x := 86) rfl rfl ?_
                  refine x_iconst (v := 0) rfl ki_0 ?_
                  refine y_iald (v := 0) (N := 3) 0 rfl (F.1 86 (100, 3) rfl rfl) (jinb_of (by decide)) (by decide) (F.2.2.2.1 86 rfl rfl 0).1 ?_
                  refine x_iloadn (x := a4) rfl rfl ?_
                  refine x_icne (tgt := 33) rfl rfl (ti_ne (show (0 : Int32).toInt = 0 by decide) (show (a4 : Int32).toInt = a4.toInt from rfl) ⟨fun c9 => ?_, fun c9 => ?_⟩)
                  ·
                    refine x_iconst (v := 0) rfl ki_0 ?_
                    refine x_istore (ls' := [(4, .int 0), (0, .ref 86), (1, .int a4), (2, .int 0), (3, .int 1)]) rfl rfl rfl ?_
                    refine x_aloadn (x := 86) rfl rfl ?_
                    refine x_iconst (v := 0) rfl ki_0 ?_
                    refine x_iloadn (x := a4) rfl rfl ?_
                    refine y_iast (N := 3) 0 rfl (F.1 86 (100, 3) rfl rfl) rfl (jinb_of (by decide)) (by decide) ?_
                    refine x_aloadn (x := 86) rfl rfl ?_
                    refine x_iconst (v := 1) rfl ki_1 ?_
                    refine x_iloadn (x := 0) rfl rfl ?_
                    refine y_iast (N := 3) 1 rfl (sh_si (F.1 86 (100, 3) rfl rfl)) rfl (jinb_of (by decide)) (by decide) ?_
                    refine x_aloadn (x := 86) rfl rfl ?_
                    refine x_iconst (v := 2) rfl ki_2 ?_
                    refine x_iloadn (x := 1) rfl rfl ?_
                    refine y_iast (N := 3) 2 rfl (sh_si (sh_si (F.1 86 (100, 3) rfl rfl))) rfl (jinb_of (by decide)) (by decide) ?_
                    refine x_iload (x := 0) rfl rfl ?_
                    refine x_zret rfl rfl (by first | decide | exact jp_01 _) ?_
                    show jX m_X7_asKnown 99 0 0 16 [(0, .ref 78), (1, .int a4)] [.int 0] _ 0 0 _
                    refine x_ifeq (tgt := 20) rfl rfl (br_t (by decide) ?_)
                    refine x_iconst (v := 0) rfl ki_0 ?_
                    refine x_istoren (ls' := [(2, .int 0), (0, .ref 78), (1, .int a4)]) rfl rfl rfl ?_
                    refine x_iloadn (x := 0) rfl rfl ?_
                    refine x_aloadn (x := 78) rfl rfl ?_
                    refine x_getR (b := 32) 7 0 rfl f_7_55 rfl (congrArg Prod.fst (sh_si (sh_si (sh_si (F.1 78 (7, 16) rfl rfl))))) (rv_si (rv_si (rv_si (F.2.1 9984 32 rfl rfl)))) ?_
                    refine x_getR (b := 33) 1 0 rfl f_7_63 rfl (congrArg Prod.fst (sh_si (sh_si (sh_si (F.1 32 (1, 20) rfl rfl))))) (rv_si (rv_si (rv_si (F.2.1 4096 33 rfl rfl)))) ?_
                    refine y_getI (v := 0) 8 3 rfl f_7_85 rfl (congrArg Prod.fst (sh_si (sh_si (sh_si (F.1 33 (8, 4) rfl rfl))))) (iv_si rfl (iv_si rfl (iv_si rfl (F.2.2.1 4227 0 rfl rfl)))) ?_
                    refine x_iconst (v := 3) rfl ki_3 ?_
                    refine y_imul (v := 0) rfl (by decide) ?_
                    refine x_icge (tgt := 96) rfl rfl (br_t (by decide) ?_)
                    refine x_aloadn (x := 78) rfl rfl ?_
                    refine x_iconst (v := 0) rfl ki_0 ?_
                    refine x_putI 7 13 rfl f_7_46 rfl (jfin_no TX7 RX7 16 rfl rfl) (congrArg Prod.fst (sh_si (sh_si (sh_si (F.1 78 (7, 16) rfl rfl))))) rfl ?_
                    refine x_iconst (v := 0) rfl ki_0 ?_
                    refine x_istoren (ls' := [(2, .int 0), (0, .ref 78), (1, .int a4)]) rfl rfl rfl ?_
                    refine x_iloadn (x := 0) rfl rfl ?_
                    refine x_aloadn (x := 78) rfl rfl ?_
                    refine x_getR (b := 32) 7 0 rfl f_7_55 rfl (congrArg Prod.fst (sh_si (sh_si (sh_si (sh_si (F.1 78 (7, 16) rfl rfl)))))) (rv_si (rv_si (rv_si (rv_si (F.2.1 9984 32 rfl rfl))))) ?_
                    refine x_getR (b := 39) 1 3 rfl f_7_150 rfl (congrArg Prod.fst (sh_si (sh_si (sh_si (sh_si (F.1 32 (1, 20) rfl rfl)))))) (rv_si (rv_si (rv_si (rv_si (F.2.1 4099 39 rfl rfl))))) ?_
                    refine y_getI (v := 0) 8 3 rfl f_7_85 rfl (congrArg Prod.fst (sh_si (sh_si (sh_si (sh_si (F.1 39 (8, 4) rfl rfl)))))) (iv_si rfl (iv_si rfl (iv_si rfl (iv_si rfl (F.2.2.1 4995 0 rfl rfl))))) ?_
                    refine x_icge (tgt := 175) rfl rfl (br_t (by decide) ?_)
                    refine x_vret rfl rfl ?_
                    show jX m_X11_fill 100 0 0 72 [(0, .ref 31), (1, .int a1), (2, .int a2), (3, .int a3), (4, .int a4), (5, .int a5)] [] _ 0 0 _
                    refine x_aloadn (x := 31) rfl rfl ?_
                    refine x_iloadn (x := a1) rfl rfl ?_
                    refine x_iloadn (x := a2) rfl rfl ?_
                    refine x_iloadn (x := a3) rfl rfl ?_
                    refine x_inv (N := m_X11_leastOf) (As := [.int a1, .int a2, .int a3]) (b := 31) (st := []) (d' := 99) (mc := 0) (ms := 0) (host := "") 11 rfl t_X11_leastOf ⟨Or.inl q_11_319, i_X11_leastOf.1, i_X11_leastOf.2⟩ ⟨by decide, rfl⟩ (congrArg Prod.fst (sh_si (sh_si (sh_si (sh_si (F.1 31 (11, 13) rfl rfl)))))) rfl (by decide) rfl rfl ⟨by decide, by decide⟩ (jC.of rfl k_X11_leastOf rfl ?_)
                    show jX m_X11_leastOf 99 0 0 0 [(0, .ref 31), (1, .int a1), (2, .int a2), (3, .int a3)] [] _ 0 0 _
                    refine x_iloadn (x := a1) rfl rfl ?_
                    refine x_ifeq (tgt := 11) rfl rfl (ti_eq (show (a1 : Int32).toInt = a1.toInt from rfl) (show (0 : Int32).toInt = 0 by decide) ⟨fun c10 => ?_, fun c10 => ?_⟩)
                    ·
                      refine x_iloadn (x := a1) rfl rfl ?_
                      refine x_ifne (tgt := 19) rfl rfl (ti_ne (show (a1 : Int32).toInt = a1.toInt from rfl) (show (0 : Int32).toInt = 0 by decide) (bn_f c10 ?_))
                      refine x_iconst (v := 0) rfl ki_0 ?_
                      refine x_goto (tgt := 20) rfl rfl ?_
                      refine x_istore (ls' := [(4, .int 0), (0, .ref 31), (1, .int a1), (2, .int a2), (3, .int a3)]) rfl rfl rfl ?_
                      refine x_iloadn (x := a1) rfl rfl ?_
                      refine x_ifne (tgt := 30) rfl rfl (ti_ne (show (a1 : Int32).toInt = a1.toInt from rfl) (show (0 : Int32).toInt = 0 by decide) (bn_f c10 ?_))
                      refine x_iconst (v := 0) rfl ki_0 ?_
                      refine x_goto (tgt := 31) rfl rfl ?_
                      refine x_istore (ls' := [(5, .int 0), (4, .int 0), (0, .ref 31), (1, .int a1), (2, .int a2), (3, .int a3)]) rfl rfl rfl ?_
                      refine x_iconst (v := 0) rfl ki_0 ?_
                      refine x_istore (ls' := [(6, .int 0), (5, .int 0), (4, .int 0), (0, .ref 31), (1, .int a1), (2, .int a2), (3, .int a3)]) rfl rfl rfl ?_
                      refine x_iconst (v := 0) rfl ki_0 ?_
                      refine x_istore (ls' := [(7, .int 0), (6, .int 0), (5, .int 0), (4, .int 0), (0, .ref 31), (1, .int a1), (2, .int a2), (3, .int a3)]) rfl rfl rfl ?_
                      refine x_iload (x := 0) rfl rfl ?_
                      refine x_aloadn (x := 31) rfl rfl ?_
                      refine x_getR (b := 32) 11 0 rfl f_11_10 rfl (congrArg Prod.fst (sh_si (sh_si (sh_si (sh_si (F.1 31 (11, 13) rfl rfl)))))) (rv_si (rv_si (rv_si (rv_si (F.2.1 3968 32 rfl rfl))))) ?_
                      refine x_getR (b := 33) 1 0 rfl f_11_126 rfl (congrArg Prod.fst (sh_si (sh_si (sh_si (sh_si (F.1 32 (1, 20) rfl rfl)))))) (rv_si (rv_si (rv_si (rv_si (F.2.1 4096 33 rfl rfl))))) ?_
                      refine y_getI (v := 0) 8 3 rfl f_11_142 rfl (congrArg Prod.fst (sh_si (sh_si (sh_si (sh_si (F.1 33 (8, 4) rfl rfl)))))) (iv_si rfl (iv_si rfl (iv_si rfl (iv_si rfl (F.2.2.1 4227 0 rfl rfl))))) ?_
                      refine x_iconst (v := 3) rfl ki_3 ?_
                      refine y_imul (v := 0) rfl (by decide) ?_
                      refine x_icge (tgt := 158) rfl rfl (br_t (by decide) ?_)
                      refine x_iload (x := 0) rfl rfl ?_
                      refine x_iret rfl rfl ?_
                      show jX m_X11_fill 100 0 0 79 [(0, .ref 31), (1, .int a1), (2, .int a2), (3, .int a3), (4, .int a4), (5, .int a5)] [.int 0] _ 0 0 _
                      refine x_istore (ls' := [(6, .int 0), (0, .ref 31), (1, .int a1), (2, .int a2), (3, .int a3), (4, .int a4), (5, .int a5)]) rfl rfl rfl ?_
                      refine x_iload (x := a5) rfl rfl ?_
                      refine x_ifne (tgt := 91) rfl rfl (ti_ne (show (a5 : Int32).toInt = a5.toInt from rfl) (show (0 : Int32).toInt = 0 by decide) ⟨fun c11 => ?_, fun c11 => ?_⟩)
                      ·
                        refine x_iload (x := 0) rfl rfl ?_
                        refine x_aloadn (x := 31) rfl rfl ?_
                        refine x_iloadn (x := a1) rfl rfl ?_
                        refine x_iloadn (x := a3) rfl rfl ?_
                        refine x_iloadn (x := a2) rfl rfl ?_
                        refine x_isub rfl ?_
                        have c12 := jsubf (x := a3) (y := a2) (show (a3 : Int32).toInt = a3.toInt from rfl) (show (a2 : Int32).toInt = a2.toInt from rfl) (by omega)
                        refine x_iload (x := a4) rfl rfl ?_
                        refine x_inv (N := m_X11_mostOf) (As := [.int a1, .int (a3 - a2), .int a4]) (b := 31) (st := [.int 0]) (d' := 99) (mc := 0) (ms := 0) (host := "") 11 rfl t_X11_mostOf ⟨Or.inl q_11_322, i_X11_mostOf.1, i_X11_mostOf.2⟩ ⟨by decide, rfl⟩ (congrArg Prod.fst (sh_si (sh_si (sh_si (sh_si (F.1 31 (11, 13) rfl rfl)))))) rfl (by decide) rfl rfl ⟨by decide, by decide⟩ (jC.of rfl k_X11_mostOf rfl ?_)
                        show jX m_X11_mostOf 99 0 0 0 [(0, .ref 31), (1, .int a1), (2, .int (a3 - a2)), (3, .int a4)] [] _ 0 0 _
                        refine x_iconst (v := 0) rfl ki_0 ?_
                        refine x_istore (ls' := [(4, .int 0), (0, .ref 31), (1, .int a1), (2, .int (a3 - a2)), (3, .int a4)]) rfl rfl rfl ?_
                        refine x_iconst (v := 0) rfl ki_0 ?_
                        refine x_istore (ls' := [(5, .int 0), (4, .int 0), (0, .ref 31), (1, .int a1), (2, .int (a3 - a2)), (3, .int a4)]) rfl rfl rfl ?_
                        refine x_iload (x := 0) rfl rfl ?_
                        refine x_aloadn (x := 31) rfl rfl ?_
                        refine x_getR (b := 32) 11 0 rfl f_11_10 rfl (congrArg Prod.fst (sh_si (sh_si (sh_si (sh_si (F.1 31 (11, 13) rfl rfl)))))) (rv_si (rv_si (rv_si (rv_si (F.2.1 3968 32 rfl rfl))))) ?_
                        refine x_getR (b := 33) 1 0 rfl f_11_126 rfl (congrArg Prod.fst (sh_si (sh_si (sh_si (sh_si (F.1 32 (1, 20) rfl rfl)))))) (rv_si (rv_si (rv_si (rv_si (F.2.1 4096 33 rfl rfl))))) ?_
                        refine y_getI (v := 0) 8 3 rfl f_11_142 rfl (congrArg Prod.fst (sh_si (sh_si (sh_si (sh_si (F.1 33 (8, 4) rfl rfl)))))) (iv_si rfl (iv_si rfl (iv_si rfl (iv_si rfl (F.2.2.1 4227 0 rfl rfl))))) ?_
                        refine x_icge (tgt := 87) rfl rfl (br_t (by decide) ?_)
                        refine x_iload (x := 0) rfl rfl ?_
                        refine x_iret rfl rfl ?_
                        show jX m_X11_fill 100 0 0 103 [(6, .int 0), (0, .ref 31), (1, .int a1), (2, .int a2), (3, .int a3), (4, .int a4), (5, .int a5)] [.int 0, .int 0] _ 0 0 _
                        refine x_mmax rfl q_11_193 (by decide) rfl (br_f (by decide) ?_)
                        refine x_iret rfl rfl ?_
                        exact jqe (show sp_fill a1 a2 a3 a4 a5 = 0 by unfold sp_fill; (repeat' split) <;> first | rfl | (exfalso; omega)) (hQ _ (jFb_si rfl (jFb_si rfl (jFb_si rfl (jFb_si rfl FM)))) (jOl_si rfl (jOl_si rfl (jOl_si rfl (jOl_si rfl O)))))
                      ·
                        refine x_iload (x := 0) rfl rfl ?_
                        refine x_goto (tgt := 106) rfl rfl ?_
                        refine x_iret rfl rfl ?_
                        exact jqe (show sp_fill a1 a2 a3 a4 a5 = 0 by unfold sp_fill; (repeat' split) <;> first | rfl | (exfalso; omega)) (hQ _ (jFb_si rfl (jFb_si rfl (jFb_si rfl (jFb_si rfl FM)))) (jOl_si rfl (jOl_si rfl (jOl_si rfl (jOl_si rfl O)))))
                    ·
                      refine x_iloadn (x := a1) rfl rfl ?_
                      refine x_iconst (v := 2) rfl ki_2 ?_
                      refine x_iceq (tgt := 11) rfl rfl (ti_eq (show (a1 : Int32).toInt = a1.toInt from rfl) (show (2 : Int32).toInt = 2 by decide) ⟨fun c13 => ?_, fun c13 => ?_⟩)
                      ·
                        refine x_iloadn (x := a1) rfl rfl ?_
                        refine x_ifne (tgt := 19) rfl rfl (ti_ne (show (a1 : Int32).toInt = a1.toInt from rfl) (show (0 : Int32).toInt = 0 by decide) (bn_t c10 ?_))
                        refine x_iconst (v := 5) rfl ki_5 ?_
                        refine x_istore (ls' := [(4, .int 5), (0, .ref 31), (1, .int a1), (2, .int a2), (3, .int a3)]) rfl rfl rfl ?_
                        refine x_iloadn (x := a1) rfl rfl ?_
                        refine x_ifne (tgt := 30) rfl rfl (ti_ne (show (a1 : Int32).toInt = a1.toInt from rfl) (show (0 : Int32).toInt = 0 by decide) (bn_t c10 ?_))
                        refine x_iconst (v := 2) rfl ki_2 ?_
                        refine x_istore (ls' := [(5, .int 2), (4, .int 5), (0, .ref 31), (1, .int a1), (2, .int a2), (3, .int a3)]) rfl rfl rfl ?_
                        refine x_iconst (v := 0) rfl ki_0 ?_
                        refine x_istore (ls' := [(6, .int 0), (5, .int 2), (4, .int 5), (0, .ref 31), (1, .int a1), (2, .int a2), (3, .int a3)]) rfl rfl rfl ?_
                        refine x_iconst (v := 0) rfl ki_0 ?_
                        refine x_istore (ls' := [(7, .int 0), (6, .int 0), (5, .int 2), (4, .int 5), (0, .ref 31), (1, .int a1), (2, .int a2), (3, .int a3)]) rfl rfl rfl ?_
                        refine x_iload (x := 0) rfl rfl ?_
                        refine x_aloadn (x := 31) rfl rfl ?_
                        refine x_getR (b := 32) 11 0 rfl f_11_10 rfl (congrArg Prod.fst (sh_si (sh_si (sh_si (sh_si (F.1 31 (11, 13) rfl rfl)))))) (rv_si (rv_si (rv_si (rv_si (F.2.1 3968 32 rfl rfl))))) ?_
                        refine x_getR (b := 33) 1 0 rfl f_11_126 rfl (congrArg Prod.fst (sh_si (sh_si (sh_si (sh_si (F.1 32 (1, 20) rfl rfl)))))) (rv_si (rv_si (rv_si (rv_si (F.2.1 4096 33 rfl rfl))))) ?_
                        refine y_getI (v := 0) 8 3 rfl f_11_142 rfl (congrArg Prod.fst (sh_si (sh_si (sh_si (sh_si (F.1 33 (8, 4) rfl rfl)))))) (iv_si rfl (iv_si rfl (iv_si rfl (iv_si rfl (F.2.2.1 4227 0 rfl rfl))))) ?_
                        refine x_iconst (v := 3) rfl ki_3 ?_
                        refine y_imul (v := 0) rfl (by decide) ?_
                        refine x_icge (tgt := 158) rfl rfl (br_t (by decide) ?_)
                        refine x_iload (x := 0) rfl rfl ?_
                        refine x_iret rfl rfl ?_
                        show jX m_X11_fill 100 0 0 79 [(0, .ref 31), (1, .int a1), (2, .int a2), (3, .int a3), (4, .int a4), (5, .int a5)] [.int 0] _ 0 0 _
                        refine x_istore (ls' := [(6, .int 0), (0, .ref 31), (1, .int a1), (2, .int a2), (3, .int a3), (4, .int a4), (5, .int a5)]) rfl rfl rfl ?_
                        refine x_iload (x := a5) rfl rfl ?_
                        refine x_ifne (tgt := 91) rfl rfl (ti_ne (show (a5 : Int32).toInt = a5.toInt from rfl) (show (0 : Int32).toInt = 0 by decide) ⟨fun c14 => ?_, fun c14 => ?_⟩)
                        ·
                          refine x_iload (x := 0) rfl rfl ?_
                          refine x_aloadn (x := 31) rfl rfl ?_
                          refine x_iloadn (x := a1) rfl rfl ?_
                          refine x_iloadn (x := a3) rfl rfl ?_
                          refine x_iloadn (x := a2) rfl rfl ?_
                          refine x_isub rfl ?_
                          have c15 := jsubf (x := a3) (y := a2) (show (a3 : Int32).toInt = a3.toInt from rfl) (show (a2 : Int32).toInt = a2.toInt from rfl) (by omega)
                          refine x_iload (x := a4) rfl rfl ?_
                          refine x_inv (N := m_X11_mostOf) (As := [.int a1, .int (a3 - a2), .int a4]) (b := 31) (st := [.int 0]) (d' := 99) (mc := 0) (ms := 0) (host := "") 11 rfl t_X11_mostOf ⟨Or.inl q_11_322, i_X11_mostOf.1, i_X11_mostOf.2⟩ ⟨by decide, rfl⟩ (congrArg Prod.fst (sh_si (sh_si (sh_si (sh_si (F.1 31 (11, 13) rfl rfl)))))) rfl (by decide) rfl rfl ⟨by decide, by decide⟩ (jC.of rfl k_X11_mostOf rfl ?_)
                          show jX m_X11_mostOf 99 0 0 0 [(0, .ref 31), (1, .int a1), (2, .int (a3 - a2)), (3, .int a4)] [] _ 0 0 _
                          refine x_iconst (v := 0) rfl ki_0 ?_
                          refine x_istore (ls' := [(4, .int 0), (0, .ref 31), (1, .int a1), (2, .int (a3 - a2)), (3, .int a4)]) rfl rfl rfl ?_
                          refine x_iconst (v := 0) rfl ki_0 ?_
                          refine x_istore (ls' := [(5, .int 0), (4, .int 0), (0, .ref 31), (1, .int a1), (2, .int (a3 - a2)), (3, .int a4)]) rfl rfl rfl ?_
                          refine x_iload (x := 0) rfl rfl ?_
                          refine x_aloadn (x := 31) rfl rfl ?_
                          refine x_getR (b := 32) 11 0 rfl f_11_10 rfl (congrArg Prod.fst (sh_si (sh_si (sh_si (sh_si (F.1 31 (11, 13) rfl rfl)))))) (rv_si (rv_si (rv_si (rv_si (F.2.1 3968 32 rfl rfl))))) ?_
                          refine x_getR (b := 33) 1 0 rfl f_11_126 rfl (congrArg Prod.fst (sh_si (sh_si (sh_si (sh_si (F.1 32 (1, 20) rfl rfl)))))) (rv_si (rv_si (rv_si (rv_si (F.2.1 4096 33 rfl rfl))))) ?_
                          refine y_getI (v := 0) 8 3 rfl f_11_142 rfl (congrArg Prod.fst (sh_si (sh_si (sh_si (sh_si (F.1 33 (8, 4) rfl rfl)))))) (iv_si rfl (iv_si rfl (iv_si rfl (iv_si rfl (F.2.2.1 4227 0 rfl rfl))))) ?_
                          refine x_icge (tgt := 87) rfl rfl (br_t (by decide) ?_)
                          refine x_iload (x := 0) rfl rfl ?_
                          refine x_iret rfl rfl ?_
                          show jX m_X11_fill 100 0 0 103 [(6, .int 0), (0, .ref 31), (1, .int a1), (2, .int a2), (3, .int a3), (4, .int a4), (5, .int a5)] [.int 0, .int 0] _ 0 0 _
                          refine x_mmax rfl q_11_193 (by decide) rfl (br_f (by decide) ?_)
                          refine x_iret rfl rfl ?_
                          exact jqe (show sp_fill a1 a2 a3 a4 a5 = 0 by unfold sp_fill; (repeat' split) <;> first | rfl | (exfalso; omega)) (hQ _ (jFb_si rfl (jFb_si rfl (jFb_si rfl (jFb_si rfl FM)))) (jOl_si rfl (jOl_si rfl (jOl_si rfl (jOl_si rfl O)))))
                        ·
                          refine x_iload (x := 0) rfl rfl ?_
                          refine x_goto (tgt := 106) rfl rfl ?_
                          refine x_iret rfl rfl ?_
                          exact jqe (show sp_fill a1 a2 a3 a4 a5 = 0 by unfold sp_fill; (repeat' split) <;> first | rfl | (exfalso; omega)) (hQ _ (jFb_si rfl (jFb_si rfl (jFb_si rfl (jFb_si rfl FM)))) (jOl_si rfl (jOl_si rfl (jOl_si rfl (jOl_si rfl O)))))
                      ·
                        refine x_iconst (v := 0) rfl ki_0 ?_
                        refine x_iret rfl rfl ?_
                        show jX m_X11_fill 100 0 0 79 [(0, .ref 31), (1, .int a1), (2, .int a2), (3, .int a3), (4, .int a4), (5, .int a5)] [.int 0] _ 0 0 _
                        refine x_istore (ls' := [(6, .int 0), (0, .ref 31), (1, .int a1), (2, .int a2), (3, .int a3), (4, .int a4), (5, .int a5)]) rfl rfl rfl ?_
                        refine x_iload (x := a5) rfl rfl ?_
                        refine x_ifne (tgt := 91) rfl rfl (ti_ne (show (a5 : Int32).toInt = a5.toInt from rfl) (show (0 : Int32).toInt = 0 by decide) ⟨fun c16 => ?_, fun c16 => ?_⟩)
                        ·
                          refine x_iload (x := 0) rfl rfl ?_
                          refine x_aloadn (x := 31) rfl rfl ?_
                          refine x_iloadn (x := a1) rfl rfl ?_
                          refine x_iloadn (x := a3) rfl rfl ?_
                          refine x_iloadn (x := a2) rfl rfl ?_
                          refine x_isub rfl ?_
                          have c17 := jsubf (x := a3) (y := a2) (show (a3 : Int32).toInt = a3.toInt from rfl) (show (a2 : Int32).toInt = a2.toInt from rfl) (by omega)
                          refine x_iload (x := a4) rfl rfl ?_
                          refine x_inv (N := m_X11_mostOf) (As := [.int a1, .int (a3 - a2), .int a4]) (b := 31) (st := [.int 0]) (d' := 99) (mc := 0) (ms := 0) (host := "") 11 rfl t_X11_mostOf ⟨Or.inl q_11_322, i_X11_mostOf.1, i_X11_mostOf.2⟩ ⟨by decide, rfl⟩ (congrArg Prod.fst (sh_si (sh_si (sh_si (sh_si (F.1 31 (11, 13) rfl rfl)))))) rfl (by decide) rfl rfl ⟨by decide, by decide⟩ (jC.of rfl k_X11_mostOf rfl ?_)
                          show jX m_X11_mostOf 99 0 0 0 [(0, .ref 31), (1, .int a1), (2, .int (a3 - a2)), (3, .int a4)] [] _ 0 0 _
                          refine x_iconst (v := 0) rfl ki_0 ?_
                          refine x_istore (ls' := [(4, .int 0), (0, .ref 31), (1, .int a1), (2, .int (a3 - a2)), (3, .int a4)]) rfl rfl rfl ?_
                          refine x_iconst (v := 0) rfl ki_0 ?_
                          refine x_istore (ls' := [(5, .int 0), (4, .int 0), (0, .ref 31), (1, .int a1), (2, .int (a3 - a2)), (3, .int a4)]) rfl rfl rfl ?_
                          refine x_iload (x := 0) rfl rfl ?_
                          refine x_aloadn (x := 31) rfl rfl ?_
                          refine x_getR (b := 32) 11 0 rfl f_11_10 rfl (congrArg Prod.fst (sh_si (sh_si (sh_si (sh_si (F.1 31 (11, 13) rfl rfl)))))) (rv_si (rv_si (rv_si (rv_si (F.2.1 3968 32 rfl rfl))))) ?_
                          refine x_getR (b := 33) 1 0 rfl f_11_126 rfl (congrArg Prod.fst (sh_si (sh_si (sh_si (sh_si (F.1 32 (1, 20) rfl rfl)))))) (rv_si (rv_si (rv_si (rv_si (F.2.1 4096 33 rfl rfl))))) ?_
                          refine y_getI (v := 0) 8 3 rfl f_11_142 rfl (congrArg Prod.fst (sh_si (sh_si (sh_si (sh_si (F.1 33 (8, 4) rfl rfl)))))) (iv_si rfl (iv_si rfl (iv_si rfl (iv_si rfl (F.2.2.1 4227 0 rfl rfl))))) ?_
                          refine x_icge (tgt := 87) rfl rfl (br_t (by decide) ?_)
                          refine x_iload (x := 0) rfl rfl ?_
                          refine x_iret rfl rfl ?_
                          show jX m_X11_fill 100 0 0 103 [(6, .int 0), (0, .ref 31), (1, .int a1), (2, .int a2), (3, .int a3), (4, .int a4), (5, .int a5)] [.int 0, .int 0] _ 0 0 _
                          refine x_mmax rfl q_11_193 (by decide) rfl (br_f (by decide) ?_)
                          refine x_iret rfl rfl ?_
                          exact jqe (show sp_fill a1 a2 a3 a4 a5 = 0 by unfold sp_fill; (repeat' split) <;> first | rfl | (exfalso; omega)) (hQ _ (jFb_si rfl (jFb_si rfl (jFb_si rfl (jFb_si rfl FM)))) (jOl_si rfl (jOl_si rfl (jOl_si rfl (jOl_si rfl O)))))
                        ·
                          refine x_iload (x := 0) rfl rfl ?_
                          refine x_goto (tgt := 106) rfl rfl ?_
                          refine x_iret rfl rfl ?_
                          exact jqe (show sp_fill a1 a2 a3 a4 a5 = 0 by unfold sp_fill; (repeat' split) <;> first | rfl | (exfalso; omega)) (hQ _ (jFb_si rfl (jFb_si rfl (jFb_si rfl (jFb_si rfl FM)))) (jOl_si rfl (jOl_si rfl (jOl_si rfl (jOl_si rfl O)))))
                  ·
                    refine x_aloadn (x := 86) rfl rfl ?_
                    refine x_iconst (v := 1) rfl ki_1 ?_
                    refine y_iald (v := 0) (N := 3) 1 rfl (F.1 86 (100, 3) rfl rfl) (jinb_of (by decide)) (by decide) (F.2.2.2.1 86 rfl rfl 1).1 ?_
                    refine x_iloadn (x := 0) rfl rfl ?_
                    refine x_icne (tgt := 33) rfl rfl (bn_f (by decide) ?_)
                    refine x_aloadn (x := 86) rfl rfl ?_
                    refine x_iconst (v := 2) rfl ki_2 ?_
                    refine y_iald (v := 0) (N := 3) 2 rfl (F.1 86 (100, 3) rfl rfl) (jinb_of (by decide)) (by decide) (F.2.2.2.1 86 rfl rfl 2).1 ?_
                    refine x_iloadn (x := 1) rfl rfl ?_
                    refine x_icne (tgt := 33) rfl rfl (bn_t (by decide) ?_)
                    refine x_iconst (v := 0) rfl ki_0 ?_
                    refine x_istore (ls' := [(4, .int 0), (0, .ref 86), (1, .int a4), (2, .int 0), (3, .int 1)]) rfl rfl rfl ?_
                    refine x_aloadn (x := 86) rfl rfl ?_
                    refine x_iconst (v := 0) rfl ki_0 ?_
                    refine x_iloadn (x := a4) rfl rfl ?_
                    refine y_iast (N := 3) 0 rfl (F.1 86 (100, 3) rfl rfl) rfl (jinb_of (by decide)) (by decide) ?_
                    refine x_aloadn (x := 86) rfl rfl ?_
                    refine x_iconst (v := 1) rfl ki_1 ?_
                    refine x_iloadn (x := 0) rfl rfl ?_
                    refine y_iast (N := 3) 1 rfl (sh_si (F.1 86 (100, 3) rfl rfl)) rfl (jinb_of (by decide)) (by decide) ?_
                    refine x_aloadn (x := 86) rfl rfl ?_
                    refine x_iconst (v := 2) rfl ki_2 ?_
                    refine x_iloadn (x := 1) rfl rfl ?_
                    refine y_iast (N := 3) 2 rfl (sh_si (sh_si (F.1 86 (100, 3) rfl rfl))) rfl (jinb_of (by decide)) (by decide) ?_
                    refine x_iload (x := 0) rfl rfl ?_
                    refine x_zret rfl rfl (by first | decide | exact jp_01 _) ?_
                    show jX m_X7_asKnown 99 0 0 16 [(0, .ref 78), (1, .int a4)] [.int 0] _ 0 0 _
                    refine x_ifeq (tgt := 20) rfl rfl (br_t (by decide) ?_)
                    refine x_iconst (v := 0) rfl ki_0 ?_
                    refine x_istoren (ls' := [(2, .int 0), (0, .ref 78), (1, .int a4)]) rfl rfl rfl ?_
                    refine x_iloadn (x := 0) rfl rfl ?_
                    refine x_aloadn (x := 78) rfl rfl ?_
                    refine x_getR (b := 32) 7 0 rfl f_7_55 rfl (congrArg Prod.fst (sh_si (sh_si (sh_si (F.1 78 (7, 16) rfl rfl))))) (rv_si (rv_si (rv_si (F.2.1 9984 32 rfl rfl)))) ?_
                    refine x_getR (b := 33) 1 0 rfl f_7_63 rfl (congrArg Prod.fst (sh_si (sh_si (sh_si (F.1 32 (1, 20) rfl rfl))))) (rv_si (rv_si (rv_si (F.2.1 4096 33 rfl rfl)))) ?_
                    refine y_getI (v := 0) 8 3 rfl f_7_85 rfl (congrArg Prod.fst (sh_si (sh_si (sh_si (F.1 33 (8, 4) rfl rfl))))) (iv_si rfl (iv_si rfl (iv_si rfl (F.2.2.1 4227 0 rfl rfl)))) ?_
                    refine x_iconst (v := 3) rfl ki_3 ?_
                    refine y_imul (v := 0) rfl (by decide) ?_
                    refine x_icge (tgt := 96) rfl rfl (br_t (by decide) ?_)
                    refine x_aloadn (x := 78) rfl rfl ?_
                    refine x_iconst (v := 0) rfl ki_0 ?_
                    refine x_putI 7 13 rfl f_7_46 rfl (jfin_no TX7 RX7 16 rfl rfl) (congrArg Prod.fst (sh_si (sh_si (sh_si (F.1 78 (7, 16) rfl rfl))))) rfl ?_
                    refine x_iconst (v := 0) rfl ki_0 ?_
                    refine x_istoren (ls' := [(2, .int 0), (0, .ref 78), (1, .int a4)]) rfl rfl rfl ?_
                    refine x_iloadn (x := 0) rfl rfl ?_
                    refine x_aloadn (x := 78) rfl rfl ?_
                    refine x_getR (b := 32) 7 0 rfl f_7_55 rfl (congrArg Prod.fst (sh_si (sh_si (sh_si (sh_si (F.1 78 (7, 16) rfl rfl)))))) (rv_si (rv_si (rv_si (rv_si (F.2.1 9984 32 rfl rfl))))) ?_
                    refine x_getR (b := 39) 1 3 rfl f_7_150 rfl (congrArg Prod.fst (sh_si (sh_si (sh_si (sh_si (F.1 32 (1, 20) rfl rfl)))))) (rv_si (rv_si (rv_si (rv_si (F.2.1 4099 39 rfl rfl))))) ?_
                    refine y_getI (v := 0) 8 3 rfl f_7_85 rfl (congrArg Prod.fst (sh_si (sh_si (sh_si (sh_si (F.1 39 (8, 4) rfl rfl)))))) (iv_si rfl (iv_si rfl (iv_si rfl (iv_si rfl (F.2.2.1 4995 0 rfl rfl))))) ?_
                    refine x_icge (tgt := 175) rfl rfl (br_t (by decide) ?_)
                    refine x_vret rfl rfl ?_
                    show jX m_X11_fill 100 0 0 72 [(0, .ref 31), (1, .int a1), (2, .int a2), (3, .int a3), (4, .int a4), (5, .int a5)] [] _ 0 0 _
                    refine x_aloadn (x := 31) rfl rfl ?_
                    refine x_iloadn (x := a1) rfl rfl ?_
                    refine x_iloadn (x := a2) rfl rfl ?_
                    refine x_iloadn (x := a3) rfl rfl ?_
                    refine x_inv (N := m_X11_leastOf) (As := [.int a1, .int a2, .int a3]) (b := 31) (st := []) (d' := 99) (mc := 0) (ms := 0) (host := "") 11 rfl t_X11_leastOf ⟨Or.inl q_11_319, i_X11_leastOf.1, i_X11_leastOf.2⟩ ⟨by decide, rfl⟩ (congrArg Prod.fst (sh_si (sh_si (sh_si (sh_si (F.1 31 (11, 13) rfl rfl)))))) rfl (by decide) rfl rfl ⟨by decide, by decide⟩ (jC.of rfl k_X11_leastOf rfl ?_)
                    show jX m_X11_leastOf 99 0 0 0 [(0, .ref 31), (1, .int a1), (2, .int a2), (3, .int a3)] [] _ 0 0 _
                    refine x_iloadn (x := a1) rfl rfl ?_
                    refine x_ifeq (tgt := 11) rfl rfl (ti_eq (show (a1 : Int32).toInt = a1.toInt from rfl) (show (0 : Int32).toInt = 0 by decide) ⟨fun c18 => ?_, fun c18 => ?_⟩)
                    ·
                      refine x_iloadn (x := a1) rfl rfl ?_
                      refine x_ifne (tgt := 19) rfl rfl (ti_ne (show (a1 : Int32).toInt = a1.toInt from rfl) (show (0 : Int32).toInt = 0 by decide) (bn_f c18 ?_))
                      refine x_iconst (v := 0) rfl ki_0 ?_
                      refine x_goto (tgt := 20) rfl rfl ?_
                      refine x_istore (ls' := [(4, .int 0), (0, .ref 31), (1, .int a1), (2, .int a2), (3, .int a3)]) rfl rfl rfl ?_
                      refine x_iloadn (x := a1) rfl rfl ?_
                      refine x_ifne (tgt := 30) rfl rfl (ti_ne (show (a1 : Int32).toInt = a1.toInt from rfl) (show (0 : Int32).toInt = 0 by decide) (bn_f c18 ?_))
                      refine x_iconst (v := 0) rfl ki_0 ?_
                      refine x_goto (tgt := 31) rfl rfl ?_
                      refine x_istore (ls' := [(5, .int 0), (4, .int 0), (0, .ref 31), (1, .int a1), (2, .int a2), (3, .int a3)]) rfl rfl rfl ?_
                      refine x_iconst (v := 0) rfl ki_0 ?_
                      refine x_istore (ls' := [(6, .int 0), (5, .int 0), (4, .int 0), (0, .ref 31), (1, .int a1), (2, .int a2), (3, .int a3)]) rfl rfl rfl ?_
                      refine x_iconst (v := 0) rfl ki_0 ?_
                      refine x_istore (ls' := [(7, .int 0), (6, .int 0), (5, .int 0), (4, .int 0), (0, .ref 31), (1, .int a1), (2, .int a2), (3, .int a3)]) rfl rfl rfl ?_
                      refine x_iload (x := 0) rfl rfl ?_
                      refine x_aloadn (x := 31) rfl rfl ?_
                      refine x_getR (b := 32) 11 0 rfl f_11_10 rfl (congrArg Prod.fst (sh_si (sh_si (sh_si (sh_si (F.1 31 (11, 13) rfl rfl)))))) (rv_si (rv_si (rv_si (rv_si (F.2.1 3968 32 rfl rfl))))) ?_
                      refine x_getR (b := 33) 1 0 rfl f_11_126 rfl (congrArg Prod.fst (sh_si (sh_si (sh_si (sh_si (F.1 32 (1, 20) rfl rfl)))))) (rv_si (rv_si (rv_si (rv_si (F.2.1 4096 33 rfl rfl))))) ?_
                      refine y_getI (v := 0) 8 3 rfl f_11_142 rfl (congrArg Prod.fst (sh_si (sh_si (sh_si (sh_si (F.1 33 (8, 4) rfl rfl)))))) (iv_si rfl (iv_si rfl (iv_si rfl (iv_si rfl (F.2.2.1 4227 0 rfl rfl))))) ?_
                      refine x_iconst (v := 3) rfl ki_3 ?_
                      refine y_imul (v := 0) rfl (by decide) ?_
                      refine x_icge (tgt := 158) rfl rfl (br_t (by decide) ?_)
                      refine x_iload (x := 0) rfl rfl ?_
                      refine x_iret rfl rfl ?_
                      show jX m_X11_fill 100 0 0 79 [(0, .ref 31), (1, .int a1), (2, .int a2), (3, .int a3), (4, .int a4), (5, .int a5)] [.int 0] _ 0 0 _
                      refine x_istore (ls' := [(6, .int 0), (0, .ref 31), (1, .int a1), (2, .int a2), (3, .int a3), (4, .int a4), (5, .int a5)]) rfl rfl rfl ?_
                      refine x_iload (x := a5) rfl rfl ?_
                      refine x_ifne (tgt := 91) rfl rfl (ti_ne (show (a5 : Int32).toInt = a5.toInt from rfl) (show (0 : Int32).toInt = 0 by decide) ⟨fun c19 => ?_, fun c19 => ?_⟩)
                      ·
                        refine x_iload (x := 0) rfl rfl ?_
                        refine x_aloadn (x := 31) rfl rfl ?_
                        refine x_iloadn (x := a1) rfl rfl ?_
                        refine x_iloadn (x := a3) rfl rfl ?_
                        refine x_iloadn (x := a2) rfl rfl ?_
                        refine x_isub rfl ?_
                        have c20 := jsubf (x := a3) (y := a2) (show (a3 : Int32).toInt = a3.toInt from rfl) (show (a2 : Int32).toInt = a2.toInt from rfl) (by omega)
                        refine x_iload (x := a4) rfl rfl ?_
                        refine x_inv (N := m_X11_mostOf) (As := [.int a1, .int (a3 - a2), .int a4]) (b := 31) (st := [.int 0]) (d' := 99) (mc := 0) (ms := 0) (host := "") 11 rfl t_X11_mostOf ⟨Or.inl q_11_322, i_X11_mostOf.1, i_X11_mostOf.2⟩ ⟨by decide, rfl⟩ (congrArg Prod.fst (sh_si (sh_si (sh_si (sh_si (F.1 31 (11, 13) rfl rfl)))))) rfl (by decide) rfl rfl ⟨by decide, by decide⟩ (jC.of rfl k_X11_mostOf rfl ?_)
                        show jX m_X11_mostOf 99 0 0 0 [(0, .ref 31), (1, .int a1), (2, .int (a3 - a2)), (3, .int a4)] [] _ 0 0 _
                        refine x_iconst (v := 0) rfl ki_0 ?_
                        refine x_istore (ls' := [(4, .int 0), (0, .ref 31), (1, .int a1), (2, .int (a3 - a2)), (3, .int a4)]) rfl rfl rfl ?_
                        refine x_iconst (v := 0) rfl ki_0 ?_
                        refine x_istore (ls' := [(5, .int 0), (4, .int 0), (0, .ref 31), (1, .int a1), (2, .int (a3 - a2)), (3, .int a4)]) rfl rfl rfl ?_
                        refine x_iload (x := 0) rfl rfl ?_
                        refine x_aloadn (x := 31) rfl rfl ?_
                        refine x_getR (b := 32) 11 0 rfl f_11_10 rfl (congrArg Prod.fst (sh_si (sh_si (sh_si (sh_si (F.1 31 (11, 13) rfl rfl)))))) (rv_si (rv_si (rv_si (rv_si (F.2.1 3968 32 rfl rfl))))) ?_
                        refine x_getR (b := 33) 1 0 rfl f_11_126 rfl (congrArg Prod.fst (sh_si (sh_si (sh_si (sh_si (F.1 32 (1, 20) rfl rfl)))))) (rv_si (rv_si (rv_si (rv_si (F.2.1 4096 33 rfl rfl))))) ?_
                        refine y_getI (v := 0) 8 3 rfl f_11_142 rfl (congrArg Prod.fst (sh_si (sh_si (sh_si (sh_si (F.1 33 (8, 4) rfl rfl)))))) (iv_si rfl (iv_si rfl (iv_si rfl (iv_si rfl (F.2.2.1 4227 0 rfl rfl))))) ?_
                        refine x_icge (tgt := 87) rfl rfl (br_t (by decide) ?_)
                        refine x_iload (x := 0) rfl rfl ?_
                        refine x_iret rfl rfl ?_
                        show jX m_X11_fill 100 0 0 103 [(6, .int 0), (0, .ref 31), (1, .int a1), (2, .int a2), (3, .int a3), (4, .int a4), (5, .int a5)] [.int 0, .int 0] _ 0 0 _
                        refine x_mmax rfl q_11_193 (by decide) rfl (br_f (by decide) ?_)
                        refine x_iret rfl rfl ?_
                        exact jqe (show sp_fill a1 a2 a3 a4 a5 = 0 by unfold sp_fill; (repeat' split) <;> first | rfl | (exfalso; omega)) (hQ _ (jFb_si rfl (jFb_si rfl (jFb_si rfl (jFb_si rfl FM)))) (jOl_si rfl (jOl_si rfl (jOl_si rfl (jOl_si rfl O)))))
                      ·
                        refine x_iload (x := 0) rfl rfl ?_
                        refine x_goto (tgt := 106) rfl rfl ?_
                        refine x_iret rfl rfl ?_
                        exact jqe (show sp_fill a1 a2 a3 a4 a5 = 0 by unfold sp_fill; (repeat' split) <;> first | rfl | (exfalso; omega)) (hQ _ (jFb_si rfl (jFb_si rfl (jFb_si rfl (jFb_si rfl FM)))) (jOl_si rfl (jOl_si rfl (jOl_si rfl (jOl_si rfl O)))))
                    ·
                      refine x_iloadn (x := a1) rfl rfl ?_
                      refine x_iconst (v := 2) rfl ki_2 ?_
                      refine x_iceq (tgt := 11) rfl rfl (ti_eq (show (a1 : Int32).toInt = a1.toInt from rfl) (show (2 : Int32).toInt = 2 by decide) ⟨fun c21 => ?_, fun c21 => ?_⟩)
                      ·
                        refine x_iloadn (x := a1) rfl rfl ?_
                        refine x_ifne (tgt := 19) rfl rfl (ti_ne (show (a1 : Int32).toInt = a1.toInt from rfl) (show (0 : Int32).toInt = 0 by decide) (bn_t c18 ?_))
                        refine x_iconst (v := 5) rfl ki_5 ?_
                        refine x_istore (ls' := [(4, .int 5), (0, .ref 31), (1, .int a1), (2, .int a2), (3, .int a3)]) rfl rfl rfl ?_
                        refine x_iloadn (x := a1) rfl rfl ?_
                        refine x_ifne (tgt := 30) rfl rfl (ti_ne (show (a1 : Int32).toInt = a1.toInt from rfl) (show (0 : Int32).toInt = 0 by decide) (bn_t c18 ?_))
                        refine x_iconst (v := 2) rfl ki_2 ?_
                        refine x_istore (ls' := [(5, .int 2), (4, .int 5), (0, .ref 31), (1, .int a1), (2, .int a2), (3, .int a3)]) rfl rfl rfl ?_
                        refine x_iconst (v := 0) rfl ki_0 ?_
                        refine x_istore (ls' := [(6, .int 0), (5, .int 2), (4, .int 5), (0, .ref 31), (1, .int a1), (2, .int a2), (3, .int a3)]) rfl rfl rfl ?_
                        refine x_iconst (v := 0) rfl ki_0 ?_
                        refine x_istore (ls' := [(7, .int 0), (6, .int 0), (5, .int 2), (4, .int 5), (0, .ref 31), (1, .int a1), (2, .int a2), (3, .int a3)]) rfl rfl rfl ?_
                        refine x_iload (x := 0) rfl rfl ?_
                        refine x_aloadn (x := 31) rfl rfl ?_
                        refine x_getR (b := 32) 11 0 rfl f_11_10 rfl (congrArg Prod.fst (sh_si (sh_si (sh_si (sh_si (F.1 31 (11, 13) rfl rfl)))))) (rv_si (rv_si (rv_si (rv_si (F.2.1 3968 32 rfl rfl))))) ?_
                        refine x_getR (b := 33) 1 0 rfl f_11_126 rfl (congrArg Prod.fst (sh_si (sh_si (sh_si (sh_si (F.1 32 (1, 20) rfl rfl)))))) (rv_si (rv_si (rv_si (rv_si (F.2.1 4096 33 rfl rfl))))) ?_
                        refine y_getI (v := 0) 8 3 rfl f_11_142 rfl (congrArg Prod.fst (sh_si (sh_si (sh_si (sh_si (F.1 33 (8, 4) rfl rfl)))))) (iv_si rfl (iv_si rfl (iv_si rfl (iv_si rfl (F.2.2.1 4227 0 rfl rfl))))) ?_
                        refine x_iconst (v := 3) rfl ki_3 ?_
                        refine y_imul (v := 0) rfl (by decide) ?_
                        refine x_icge (tgt := 158) rfl rfl (br_t (by decide) ?_)
                        refine x_iload (x := 0) rfl rfl ?_
                        refine x_iret rfl rfl ?_
                        show jX m_X11_fill 100 0 0 79 [(0, .ref 31), (1, .int a1), (2, .int a2), (3, .int a3), (4, .int a4), (5, .int a5)] [.int 0] _ 0 0 _
                        refine x_istore (ls' := [(6, .int 0), (0, .ref 31), (1, .int a1), (2, .int a2), (3, .int a3), (4, .int a4), (5, .int a5)]) rfl rfl rfl ?_
                        refine x_iload (x := a5) rfl rfl ?_
                        refine x_ifne (tgt := 91) rfl rfl (ti_ne (show (a5 : Int32).toInt = a5.toInt from rfl) (show (0 : Int32).toInt = 0 by decide) ⟨fun c22 => ?_, fun c22 => ?_⟩)
                        ·
                          refine x_iload (x := 0) rfl rfl ?_
                          refine x_aloadn (x := 31) rfl rfl ?_
                          refine x_iloadn (x := a1) rfl rfl ?_
                          refine x_iloadn (x := a3) rfl rfl ?_
                          refine x_iloadn (x := a2) rfl rfl ?_
                          refine x_isub rfl ?_
                          have c23 := jsubf (x := a3) (y := a2) (show (a3 : Int32).toInt = a3.toInt from rfl) (show (a2 : Int32).toInt = a2.toInt from rfl) (by omega)
                          refine x_iload (x := a4) rfl rfl ?_
                          refine x_inv (N := m_X11_mostOf) (As := [.int a1, .int (a3 - a2), .int a4]) (b := 31) (st := [.int 0]) (d' := 99) (mc := 0) (ms := 0) (host := "") 11 rfl t_X11_mostOf ⟨Or.inl q_11_322, i_X11_mostOf.1, i_X11_mostOf.2⟩ ⟨by decide, rfl⟩ (congrArg Prod.fst (sh_si (sh_si (sh_si (sh_si (F.1 31 (11, 13) rfl rfl)))))) rfl (by decide) rfl rfl ⟨by decide, by decide⟩ (jC.of rfl k_X11_mostOf rfl ?_)
                          show jX m_X11_mostOf 99 0 0 0 [(0, .ref 31), (1, .int a1), (2, .int (a3 - a2)), (3, .int a4)] [] _ 0 0 _
                          refine x_iconst (v := 0) rfl ki_0 ?_
                          refine x_istore (ls' := [(4, .int 0), (0, .ref 31), (1, .int a1), (2, .int (a3 - a2)), (3, .int a4)]) rfl rfl rfl ?_
                          refine x_iconst (v := 0) rfl ki_0 ?_
                          refine x_istore (ls' := [(5, .int 0), (4, .int 0), (0, .ref 31), (1, .int a1), (2, .int (a3 - a2)), (3, .int a4)]) rfl rfl rfl ?_
                          refine x_iload (x := 0) rfl rfl ?_
                          refine x_aloadn (x := 31) rfl rfl ?_
                          refine x_getR (b := 32) 11 0 rfl f_11_10 rfl (congrArg Prod.fst (sh_si (sh_si (sh_si (sh_si (F.1 31 (11, 13) rfl rfl)))))) (rv_si (rv_si (rv_si (rv_si (F.2.1 3968 32 rfl rfl))))) ?_
                          refine x_getR (b := 33) 1 0 rfl f_11_126 rfl (congrArg Prod.fst (sh_si (sh_si (sh_si (sh_si (F.1 32 (1, 20) rfl rfl)))))) (rv_si (rv_si (rv_si (rv_si (F.2.1 4096 33 rfl rfl))))) ?_
                          refine y_getI (v := 0) 8 3 rfl f_11_142 rfl (congrArg Prod.fst (sh_si (sh_si (sh_si (sh_si (F.1 33 (8, 4) rfl rfl)))))) (iv_si rfl (iv_si rfl (iv_si rfl (iv_si rfl (F.2.2.1 4227 0 rfl rfl))))) ?_
                          refine x_icge (tgt := 87) rfl rfl (br_t (by decide) ?_)
                          refine x_iload (x := 0) rfl rfl ?_
                          refine x_iret rfl rfl ?_
                          show jX m_X11_fill 100 0 0 103 [(6, .int 0), (0, .ref 31), (1, .int a1), (2, .int a2), (3, .int a3), (4, .int a4), (5, .int a5)] [.int 0, .int 0] _ 0 0 _
                          refine x_mmax rfl q_11_193 (by decide) rfl (br_f (by decide) ?_)
                          refine x_iret rfl rfl ?_
                          exact jqe (show sp_fill a1 a2 a3 a4 a5 = 0 by unfold sp_fill; (repeat' split) <;> first | rfl | (exfalso; omega)) (hQ _ (jFb_si rfl (jFb_si rfl (jFb_si rfl (jFb_si rfl FM)))) (jOl_si rfl (jOl_si rfl (jOl_si rfl (jOl_si rfl O)))))
                        ·
                          refine x_iload (x := 0) rfl rfl ?_
                          refine x_goto (tgt := 106) rfl rfl ?_
                          refine x_iret rfl rfl ?_
                          exact jqe (show sp_fill a1 a2 a3 a4 a5 = 0 by unfold sp_fill; (repeat' split) <;> first | rfl | (exfalso; omega)) (hQ _ (jFb_si rfl (jFb_si rfl (jFb_si rfl (jFb_si rfl FM)))) (jOl_si rfl (jOl_si rfl (jOl_si rfl (jOl_si rfl O)))))
                      ·
                        refine x_iconst (v := 0) rfl ki_0 ?_
                        refine x_iret rfl rfl ?_
                        show jX m_X11_fill 100 0 0 79 [(0, .ref 31), (1, .int a1), (2, .int a2), (3, .int a3), (4, .int a4), (5, .int a5)] [.int 0] _ 0 0 _
                        refine x_istore (ls' := [(6, .int 0), (0, .ref 31), (1, .int a1), (2, .int a2), (3, .int a3), (4, .int a4), (5, .int a5)]) rfl rfl rfl ?_
                        refine x_iload (x := a5) rfl rfl ?_
                        refine x_ifne (tgt := 91) rfl rfl (ti_ne (show (a5 : Int32).toInt = a5.toInt from rfl) (show (0 : Int32).toInt = 0 by decide) ⟨fun c24 => ?_, fun c24 => ?_⟩)
                        ·
                          refine x_iload (x := 0) rfl rfl ?_
                          refine x_aloadn (x := 31) rfl rfl ?_
                          refine x_iloadn (x := a1) rfl rfl ?_
                          refine x_iloadn (x := a3) rfl rfl ?_
                          refine x_iloadn (x := a2) rfl rfl ?_
                          refine x_isub rfl ?_
                          have c25 := jsubf (x := a3) (y := a2) (show (a3 : Int32).toInt = a3.toInt from rfl) (show (a2 : Int32).toInt = a2.toInt from rfl) (by omega)
                          refine x_iload (x := a4) rfl rfl ?_
                          refine x_inv (N := m_X11_mostOf) (As := [.int a1, .int (a3 - a2), .int a4]) (b := 31) (st := [.int 0]) (d' := 99) (mc := 0) (ms := 0) (host := "") 11 rfl t_X11_mostOf ⟨Or.inl q_11_322, i_X11_mostOf.1, i_X11_mostOf.2⟩ ⟨by decide, rfl⟩ (congrArg Prod.fst (sh_si (sh_si (sh_si (sh_si (F.1 31 (11, 13) rfl rfl)))))) rfl (by decide) rfl rfl ⟨by decide, by decide⟩ (jC.of rfl k_X11_mostOf rfl ?_)
                          show jX m_X11_mostOf 99 0 0 0 [(0, .ref 31), (1, .int a1), (2, .int (a3 - a2)), (3, .int a4)] [] _ 0 0 _
                          refine x_iconst (v := 0) rfl ki_0 ?_
                          refine x_istore (ls' := [(4, .int 0), (0, .ref 31), (1, .int a1), (2, .int (a3 - a2)), (3, .int a4)]) rfl rfl rfl ?_
                          refine x_iconst (v := 0) rfl ki_0 ?_
                          refine x_istore (ls' := [(5, .int 0), (4, .int 0), (0, .ref 31), (1, .int a1), (2, .int (a3 - a2)), (3, .int a4)]) rfl rfl rfl ?_
                          refine x_iload (x := 0) rfl rfl ?_
                          refine x_aloadn (x := 31) rfl rfl ?_
                          refine x_getR (b := 32) 11 0 rfl f_11_10 rfl (congrArg Prod.fst (sh_si (sh_si (sh_si (sh_si (F.1 31 (11, 13) rfl rfl)))))) (rv_si (rv_si (rv_si (rv_si (F.2.1 3968 32 rfl rfl))))) ?_
                          refine x_getR (b := 33) 1 0 rfl f_11_126 rfl (congrArg Prod.fst (sh_si (sh_si (sh_si (sh_si (F.1 32 (1, 20) rfl rfl)))))) (rv_si (rv_si (rv_si (rv_si (F.2.1 4096 33 rfl rfl))))) ?_
                          refine y_getI (v := 0) 8 3 rfl f_11_142 rfl (congrArg Prod.fst (sh_si (sh_si (sh_si (sh_si (F.1 33 (8, 4) rfl rfl)))))) (iv_si rfl (iv_si rfl (iv_si rfl (iv_si rfl (F.2.2.1 4227 0 rfl rfl))))) ?_
                          refine x_icge (tgt := 87) rfl rfl (br_t (by decide) ?_)
                          refine x_iload (x := 0) rfl rfl ?_
                          refine x_iret rfl rfl ?_
                          show jX m_X11_fill 100 0 0 103 [(6, .int 0), (0, .ref 31), (1, .int a1), (2, .int a2), (3, .int a3), (4, .int a4), (5, .int a5)] [.int 0, .int 0] _ 0 0 _
                          refine x_mmax rfl q_11_193 (by decide) rfl (br_f (by decide) ?_)
                          refine x_iret rfl rfl ?_
                          exact jqe (show sp_fill a1 a2 a3 a4 a5 = 0 by unfold sp_fill; (repeat' split) <;> first | rfl | (exfalso; omega)) (hQ _ (jFb_si rfl (jFb_si rfl (jFb_si rfl (jFb_si rfl FM)))) (jOl_si rfl (jOl_si rfl (jOl_si rfl (jOl_si rfl O)))))
                        ·
                          refine x_iload (x := 0) rfl rfl ?_
                          refine x_goto (tgt := 106) rfl rfl ?_
                          refine x_iret rfl rfl ?_
                          exact jqe (show sp_fill a1 a2 a3 a4 a5 = 0 by unfold sp_fill; (repeat' split) <;> first | rfl | (exfalso; omega)) (hQ _ (jFb_si rfl (jFb_si rfl (jFb_si rfl (jFb_si rfl FM)))) (jOl_si rfl (jOl_si rfl (jOl_si rfl (jOl_si rfl O)))))
                ·
                  refine x_aloadn (x := 31) rfl rfl ?_
                  refine x_iloadn (x := a1) rfl rfl ?_
                  refine x_iloadn (x := a2) rfl rfl ?_
                  refine x_iloadn (x := a3) rfl rfl ?_
                  refine x_iload (x := a4) rfl rfl ?_
                  refine x_inv (N := m_X11_guessedOf) (As := [.int a1, .int a2, .int a3, .int a4]) (b := 31) (st := []) (d' := 99) (mc := 0) (ms := 0) (host := "") 11 rfl t_X11_guessedOf ⟨Or.inl q_11_315, i_X11_guessedOf.1, i_X11_guessedOf.2⟩ ⟨by decide, rfl⟩ (congrArg Prod.fst (F.1 31 (11, 13) rfl rfl)) rfl (by decide) rfl rfl ⟨by decide, by decide⟩ (c_guessedOf (by omega) F ?_)
                  show jX m_X11_fill 100 0 0 62 [(0, .ref 31), (1, .int a1), (2, .int a2), (3, .int a3), (4, .int a4), (5, .int a5)] [.int 0] _ 0 0 _
                  refine x_iret rfl rfl ?_
                  exact jqe (show sp_fill a1 a2 a3 a4 a5 = 0 by unfold sp_fill; (repeat' split) <;> first | rfl | (exfalso; omega)) (hQ _ FM O)
              ·
                refine x_iconst (v := (-1)) rfl ki_m1 ?_
                refine x_iret rfl rfl ?_
                exact jqe (show sp_fill a1 a2 a3 a4 a5 = (-1) by unfold sp_fill; (repeat' split) <;> first | rfl | (exfalso; omega)) (hQ _ FM O)
set_option maxRecDepth 100000 in
set_option maxHeartbeats 40000000 in
theorem pm_fill (a1 a2 a3 a4 a5 : Int32) {xs : Nat → Int32} {h : jH} {Q : Option Value → jH → Prop} (F : jFb 125 h) (O : jOl 7 xs h) (hQ : ∀ h', jOl 7 xs h' → Q (some (.int (sp_fill a1 a2 a3 a4 a5))) h') : jC m_X12_fill 100 0 0 [.ref 125, .int a1, .int a2, .int a3, .int a4, .int a5] h Q := by
  refine jC.of rfl k_X12_fill rfl ?_
  show jX m_X12_fill 100 0 0 0 [(0, .ref 125), (1, .int a1), (2, .int a2), (3, .int a3), (4, .int a4), (5, .int a5)] [] _ 0 0 _
  refine x_aloadn (x := 125) rfl rfl ?_
  refine x_iconst (v := 0) rfl ki_0 ?_
  refine x_putI 12 0 rfl f_12_180 rfl (jfin_no TX12 RX12 92 rfl rfl) (congrArg Prod.fst (F.1 125 (12, 92) rfl rfl)) rfl ?_
  refine x_iloadn (x := a1) rfl rfl ?_
  refine x_i2l rfl ?_
  refine x_lconst (v := 0) rfl kl_0 ?_
  refine x_ldc2 (v := 5) rfl z_12_269 ?_
  refine x_inst (N := m_X12_in) (As := [.long (a1.toInt64), .long 0, .long 5]) (st := []) (d' := 99) (mc := 0) (ms := 0) (host := "") rfl t_X12_in ⟨Or.inl q_12_188, s_X12_in⟩ rfl (by decide) rfl rfl ⟨by decide, by decide⟩ (c_X12_in (m := a1.toInt) (a := 0) (b := 5) (jt_l _) (by decide) (by decide) ?_)
  show jX m_X12_fill 100 0 0 14 [(0, .ref 125), (1, .int a1), (2, .int a2), (3, .int a3), (4, .int a4), (5, .int a5)] [.int (jp (0 ≤ a1.toInt ∧ a1.toInt ≤ 5))] _ 0 0 _
  refine x_ifeq (tgt := 56) rfl rfl (jpe ⟨fun c1 => ?_, fun c1 => ?_⟩)
  ·
    refine x_iconst (v := (-1)) rfl ki_m1 ?_
    refine x_iret rfl rfl ?_
    exact jqe (show sp_fill a1 a2 a3 a4 a5 = (-1) by unfold sp_fill; (repeat' split) <;> first | rfl | (exfalso; omega)) (hQ _ (jOl_si rfl O))
  ·
    refine x_iloadn (x := a3) rfl rfl ?_
    refine x_inst (N := m_X12_isDay) (As := [.int a3]) (st := []) (d' := 99) (mc := 0) (ms := 0) (host := "") rfl t_X12_isDay ⟨Or.inl q_12_273, s_X12_isDay⟩ rfl (by decide) rfl rfl ⟨by decide, by decide⟩ (c_X12_isDay (x := a3) ?_)
    show jX m_X12_fill 100 0 0 21 [(0, .ref 125), (1, .int a1), (2, .int a2), (3, .int a3), (4, .int a4), (5, .int a5)] [.int (jp (0 ≤ a3.toInt ∧ a3.toInt ≤ 146399))] _ 0 0 _
    refine x_ifeq (tgt := 56) rfl rfl (jpe ⟨fun c2 => ?_, fun c2 => ?_⟩)
    ·
      refine x_iconst (v := (-1)) rfl ki_m1 ?_
      refine x_iret rfl rfl ?_
      exact jqe (show sp_fill a1 a2 a3 a4 a5 = (-1) by unfold sp_fill; (repeat' split) <;> first | rfl | (exfalso; omega)) (hQ _ (jOl_si rfl O))
    ·
      refine x_iloadn (x := a2) rfl rfl ?_
      refine x_i2l rfl ?_
      refine x_lconst (v := 0) rfl kl_0 ?_
      refine x_iloadn (x := a3) rfl rfl ?_
      refine x_i2l rfl ?_
      refine x_inst (N := m_X12_in) (As := [.long (a2.toInt64), .long 0, .long (a3.toInt64)]) (st := []) (d' := 99) (mc := 0) (ms := 0) (host := "") rfl t_X12_in ⟨Or.inl q_12_188, s_X12_in⟩ rfl (by decide) rfl rfl ⟨by decide, by decide⟩ (c_X12_in (m := a2.toInt) (a := 0) (b := a3.toInt) (jt_l _) (by decide) (jt_l _) ?_)
      show jX m_X12_fill 100 0 0 32 [(0, .ref 125), (1, .int a1), (2, .int a2), (3, .int a3), (4, .int a4), (5, .int a5)] [.int (jp (0 ≤ a2.toInt ∧ a2.toInt ≤ a3.toInt))] _ 0 0 _
      refine x_ifeq (tgt := 56) rfl rfl (jpe ⟨fun c3 => ?_, fun c3 => ?_⟩)
      ·
        refine x_iconst (v := (-1)) rfl ki_m1 ?_
        refine x_iret rfl rfl ?_
        exact jqe (show sp_fill a1 a2 a3 a4 a5 = (-1) by unfold sp_fill; (repeat' split) <;> first | rfl | (exfalso; omega)) (hQ _ (jOl_si rfl O))
      ·
        refine x_iload (x := a4) rfl rfl ?_
        refine x_inst (N := m_X12_isDay) (As := [.int a4]) (st := []) (d' := 99) (mc := 0) (ms := 0) (host := "") rfl t_X12_isDay ⟨Or.inl q_12_273, s_X12_isDay⟩ rfl (by decide) rfl rfl ⟨by decide, by decide⟩ (c_X12_isDay (x := a4) ?_)
        show jX m_X12_fill 100 0 0 40 [(0, .ref 125), (1, .int a1), (2, .int a2), (3, .int a3), (4, .int a4), (5, .int a5)] [.int (jp (0 ≤ a4.toInt ∧ a4.toInt ≤ 146399))] _ 0 0 _
        refine x_ifeq (tgt := 56) rfl rfl (jpe ⟨fun c4 => ?_, fun c4 => ?_⟩)
        ·
          refine x_iconst (v := (-1)) rfl ki_m1 ?_
          refine x_iret rfl rfl ?_
          exact jqe (show sp_fill a1 a2 a3 a4 a5 = (-1) by unfold sp_fill; (repeat' split) <;> first | rfl | (exfalso; omega)) (hQ _ (jOl_si rfl O))
        ·
          refine x_iload (x := a5) rfl rfl ?_
          refine x_i2l rfl ?_
          refine x_lconst (v := 0) rfl kl_0 ?_
          refine x_ldc2 (v := 2) rfl z_12_482 ?_
          refine x_inst (N := m_X12_in) (As := [.long (a5.toInt64), .long 0, .long 2]) (st := []) (d' := 99) (mc := 0) (ms := 0) (host := "") rfl t_X12_in ⟨Or.inl q_12_188, s_X12_in⟩ rfl (by decide) rfl rfl ⟨by decide, by decide⟩ (c_X12_in (m := a5.toInt) (a := 0) (b := 2) (jt_l _) (by decide) (by decide) ?_)
          show jX m_X12_fill 100 0 0 53 [(0, .ref 125), (1, .int a1), (2, .int a2), (3, .int a3), (4, .int a4), (5, .int a5)] [.int (jp (0 ≤ a5.toInt ∧ a5.toInt ≤ 2))] _ 0 0 _
          refine x_ifne (tgt := 58) rfl rfl (jpn ⟨fun c5 => ?_, fun c5 => ?_⟩)
          ·
            refine x_aloadn (x := 125) rfl rfl ?_
            refine x_iload (x := a4) rfl rfl ?_
            refine x_inv (N := m_X12_find) (As := [.int a4]) (b := 125) (st := []) (d' := 99) (mc := 0) (ms := 0) (host := "") 12 rfl t_X12_find ⟨Or.inl q_12_393, i_X12_find.1, i_X12_find.2⟩ ⟨by decide, rfl⟩ (congrArg Prod.fst (sh_si (F.1 125 (12, 92) rfl rfl))) rfl (by decide) rfl rfl ⟨by decide, by decide⟩ (jC.of rfl k_X12_find rfl ?_)
            show jX m_X12_find 99 0 0 0 [(0, .ref 125), (1, .int a4)] [] _ 0 0 _
            refine x_aloadn (x := 125) rfl rfl ?_
            refine x_iloadn (x := a4) rfl rfl ?_
            refine x_putI 12 28 rfl f_12_377 rfl (jfin_no TX12 RX12 92 rfl rfl) (congrArg Prod.fst (sh_si (F.1 125 (12, 92) rfl rfl))) rfl ?_
            refine x_aloadn (x := 125) rfl rfl ?_
            refine x_iconst (v := 0) rfl ki_0 ?_
            refine x_putI 12 31 rfl f_12_380 rfl (jfin_no TX12 RX12 92 rfl rfl) (congrArg Prod.fst (sh_si (sh_si (F.1 125 (12, 92) rfl rfl)))) rfl ?_
            refine x_aloadn (x := 125) rfl rfl ?_
            refine x_iconst (v := (-1)) rfl ki_m1 ?_
            refine x_putI 12 57 rfl f_12_111 rfl (jfin_no TX12 RX12 92 rfl rfl) (congrArg Prod.fst (sh_si (sh_si (sh_si (F.1 125 (12, 92) rfl rfl))))) rfl ?_
            refine x_iconst (v := 0) rfl ki_0 ?_
            refine x_istoren (ls' := [(2, .int 0), (0, .ref 125), (1, .int a4)]) rfl rfl rfl ?_
            refine x_iloadn (x := 0) rfl rfl ?_
            refine x_iconst (v := 3) rfl ki_3 ?_
            refine x_aloadn (x := 125) rfl rfl ?_
            refine x_getR (b := 126) 12 2 rfl f_12_8 rfl (congrArg Prod.fst (sh_si (sh_si (sh_si (sh_si (F.1 125 (12, 92) rfl rfl)))))) (rv_si (rv_si (rv_si (rv_si (F.2.1 16002 126 rfl rfl))))) ?_
            refine x_iconst (v := 0) rfl ki_0 ?_
            refine y_iald (v := 0) (N := 50660) 0 rfl (sh_si (sh_si (sh_si (sh_si (F.1 126 (100, 50660) rfl rfl))))) (jinb_of (by decide)) (by decide) (iv_si rfl (iv_si rfl (iv_si rfl (iv_si rfl (F.2.2.2.1 126 rfl rfl 0).1)))) ?_
            refine y_imul (v := 0) rfl (by decide) ?_
            refine x_icge (tgt := 65) rfl rfl (br_t (by decide) ?_)
            refine x_iconst (v := 0) rfl ki_0 ?_
            refine x_istoren (ls' := [(2, .int 0), (0, .ref 125), (1, .int a4)]) rfl rfl rfl ?_
            refine x_iloadn (x := 0) rfl rfl ?_
            refine x_aloadn (x := 125) rfl rfl ?_
            refine x_getR (b := 126) 12 2 rfl f_12_8 rfl (congrArg Prod.fst (sh_si (sh_si (sh_si (sh_si (F.1 125 (12, 92) rfl rfl)))))) (rv_si (rv_si (rv_si (rv_si (F.2.1 16002 126 rfl rfl))))) ?_
            refine x_iconst (v := 2) rfl ki_2 ?_
            refine y_iald (v := 0) (N := 50660) 2 rfl (sh_si (sh_si (sh_si (sh_si (F.1 126 (100, 50660) rfl rfl))))) (jinb_of (by decide)) (by decide) (iv_si rfl (iv_si rfl (iv_si rfl (iv_si rfl (F.2.2.2.1 126 rfl rfl 2).1)))) ?_
            refine x_icge (tgt := 227) rfl rfl (br_t (by decide) ?_)
            refine x_vret rfl rfl ?_
            show jX m_X12_fill 100 0 0 64 [(0, .ref 125), (1, .int a1), (2, .int a2), (3, .int a3), (4, .int a4), (5, .int a5)] [] _ 0 0 _
            refine x_iload (x := a5) rfl rfl ?_
            refine x_iconst (v := 2) rfl ki_2 ?_
            refine x_icne (tgt := 78) rfl rfl (ti_ne (show (a5 : Int32).toInt = a5.toInt from rfl) (show (2 : Int32).toInt = 2 by decide) ⟨fun c6 => ?_, fun c6 => ?_⟩)
            ·
              refine x_aloadn (x := 125) rfl rfl ?_
              refine x_iloadn (x := a1) rfl rfl ?_
              refine x_iloadn (x := a2) rfl rfl ?_
              refine x_iloadn (x := a3) rfl rfl ?_
              refine x_inv (N := m_X12_leastFilled) (As := [.int a1, .int a2, .int a3]) (b := 125) (st := []) (d' := 99) (mc := 0) (ms := 0) (host := "") 12 rfl t_X12_leastFilled ⟨Or.inl q_12_487, i_X12_leastFilled.1, i_X12_leastFilled.2⟩ ⟨by decide, rfl⟩ (congrArg Prod.fst (sh_si (sh_si (sh_si (sh_si (F.1 125 (12, 92) rfl rfl)))))) rfl (by decide) rfl rfl ⟨by decide, by decide⟩ (jC.of rfl k_X12_leastFilled rfl ?_)
              show jX m_X12_leastFilled 99 0 0 0 [(0, .ref 125), (1, .int a1), (2, .int a2), (3, .int a3)] [] _ 0 0 _
              refine x_iconst (v := 0) rfl ki_0 ?_
              refine x_istore (ls' := [(4, .int 0), (0, .ref 125), (1, .int a1), (2, .int a2), (3, .int a3)]) rfl rfl rfl ?_
              refine x_iconst (v := 0) rfl ki_0 ?_
              refine x_istore (ls' := [(5, .int 0), (4, .int 0), (0, .ref 125), (1, .int a1), (2, .int a2), (3, .int a3)]) rfl rfl rfl ?_
              refine x_iload (x := 0) rfl rfl ?_
              refine x_iconst (v := 3) rfl ki_3 ?_
              refine x_aloadn (x := 125) rfl rfl ?_
              refine x_getR (b := 126) 12 2 rfl f_12_8 rfl (congrArg Prod.fst (sh_si (sh_si (sh_si (sh_si (F.1 125 (12, 92) rfl rfl)))))) (rv_si (rv_si (rv_si (rv_si (F.2.1 16002 126 rfl rfl))))) ?_
              refine x_iconst (v := 0) rfl ki_0 ?_
              refine y_iald (v := 0) (N := 50660) 0 rfl (sh_si (sh_si (sh_si (sh_si (F.1 126 (100, 50660) rfl rfl))))) (jinb_of (by decide)) (by decide) (iv_si rfl (iv_si rfl (iv_si rfl (iv_si rfl (F.2.2.2.1 126 rfl rfl 0).1)))) ?_
              refine y_imul (v := 0) rfl (by decide) ?_
              refine x_icge (tgt := 139) rfl rfl (br_t (by decide) ?_)
              refine x_iload (x := 0) rfl rfl ?_
              refine x_iret rfl rfl ?_
              show jX m_X12_fill 100 0 0 85 [(0, .ref 125), (1, .int a1), (2, .int a2), (3, .int a3), (4, .int a4), (5, .int a5)] [.int 0] _ 0 0 _
              refine x_istore (ls' := [(6, .int 0), (0, .ref 125), (1, .int a1), (2, .int a2), (3, .int a3), (4, .int a4), (5, .int a5)]) rfl rfl rfl ?_
              refine x_iload (x := a5) rfl rfl ?_
              refine x_ifne (tgt := 97) rfl rfl (ti_ne (show (a5 : Int32).toInt = a5.toInt from rfl) (show (0 : Int32).toInt = 0 by decide) ⟨fun c7 => ?_, fun c7 => ?_⟩)
              ·
                refine x_iload (x := 0) rfl rfl ?_
                refine x_aloadn (x := 125) rfl rfl ?_
                refine x_iloadn (x := a1) rfl rfl ?_
                refine x_iloadn (x := a3) rfl rfl ?_
                refine x_iloadn (x := a2) rfl rfl ?_
                refine x_isub rfl ?_
                have c8 := jsubf (x := a3) (y := a2) (show (a3 : Int32).toInt = a3.toInt from rfl) (show (a2 : Int32).toInt = a2.toInt from rfl) (by omega)
                refine x_iconst (v := 1) rfl ki_1 ?_
                refine x_iadd rfl ?_
                have c9 := jaddf (x := a3 - a2) (y := 1) (show (a3 - a2 : Int32).toInt = (a3 - a2).toInt from rfl) (show (1 : Int32).toInt = 1 by decide) (by omega)
                refine x_inv (N := m_X12_mostFilled) (As := [.int a1, .int ((a3 - a2) + 1)]) (b := 125) (st := [.int 0]) (d' := 99) (mc := 0) (ms := 0) (host := "") 12 rfl t_X12_mostFilled ⟨Or.inl q_12_490, i_X12_mostFilled.1, i_X12_mostFilled.2⟩ ⟨by decide, rfl⟩ (congrArg Prod.fst (sh_si (sh_si (sh_si (sh_si (F.1 125 (12, 92) rfl rfl)))))) rfl (by decide) rfl rfl ⟨by decide, by decide⟩ (jC.of rfl k_X12_mostFilled rfl ?_)
                show jX m_X12_mostFilled 99 0 0 0 [(0, .ref 125), (1, .int a1), (2, .int ((a3 - a2) + 1))] [] _ 0 0 _
                refine x_iconst (v := 0) rfl ki_0 ?_
                refine x_istoren (ls' := [(3, .int 0), (0, .ref 125), (1, .int a1), (2, .int ((a3 - a2) + 1))]) rfl rfl rfl ?_
                refine x_iconst (v := 0) rfl ki_0 ?_
                refine x_istore (ls' := [(4, .int 0), (3, .int 0), (0, .ref 125), (1, .int a1), (2, .int ((a3 - a2) + 1))]) rfl rfl rfl ?_
                refine x_iload (x := 0) rfl rfl ?_
                refine x_aloadn (x := 125) rfl rfl ?_
                refine x_getR (b := 126) 12 2 rfl f_12_8 rfl (congrArg Prod.fst (sh_si (sh_si (sh_si (sh_si (F.1 125 (12, 92) rfl rfl)))))) (rv_si (rv_si (rv_si (rv_si (F.2.1 16002 126 rfl rfl))))) ?_
                refine x_iconst (v := 0) rfl ki_0 ?_
                refine y_iald (v := 0) (N := 50660) 0 rfl (sh_si (sh_si (sh_si (sh_si (F.1 126 (100, 50660) rfl rfl))))) (jinb_of (by decide)) (by decide) (iv_si rfl (iv_si rfl (iv_si rfl (iv_si rfl (F.2.2.2.1 126 rfl rfl 0).1)))) ?_
                refine x_icge (tgt := 95) rfl rfl (br_t (by decide) ?_)
                refine x_iloadn (x := 0) rfl rfl ?_
                refine x_iret rfl rfl ?_
                show jX m_X12_fill 100 0 0 109 [(6, .int 0), (0, .ref 125), (1, .int a1), (2, .int a2), (3, .int a3), (4, .int a4), (5, .int a5)] [.int 0, .int 0] _ 0 0 _
                refine x_inst (N := m_X12_more) (As := [.int 0, .int 0]) (st := []) (d' := 99) (mc := 0) (ms := 0) (host := "") rfl t_X12_more ⟨Or.inl q_12_431, s_X12_more⟩ rfl (by decide) rfl rfl ⟨by decide, by decide⟩ (jC.of rfl k_X12_more rfl ?_)
                show jX m_X12_more 99 0 0 0 [(0, .int 0), (1, .int 0)] [] _ 0 0 _
                refine x_iloadn (x := 0) rfl rfl ?_
                refine x_iloadn (x := 0) rfl rfl ?_
                refine x_icle (tgt := 9) rfl rfl (br_t (by decide) ?_)
                refine x_iloadn (x := 0) rfl rfl ?_
                refine x_iret rfl rfl ?_
                show jX m_X12_fill 100 0 0 112 [(6, .int 0), (0, .ref 125), (1, .int a1), (2, .int a2), (3, .int a3), (4, .int a4), (5, .int a5)] [.int 0] _ 0 0 _
                refine x_iret rfl rfl ?_
                exact jqe (show sp_fill a1 a2 a3 a4 a5 = 0 by unfold sp_fill; (repeat' split) <;> first | rfl | (exfalso; omega)) (hQ _ (jOl_si rfl (jOl_si rfl (jOl_si rfl (jOl_si rfl O)))))
              ·
                refine x_iload (x := 0) rfl rfl ?_
                refine x_goto (tgt := 112) rfl rfl ?_
                refine x_iret rfl rfl ?_
                exact jqe (show sp_fill a1 a2 a3 a4 a5 = 0 by unfold sp_fill; (repeat' split) <;> first | rfl | (exfalso; omega)) (hQ _ (jOl_si rfl (jOl_si rfl (jOl_si rfl (jOl_si rfl O)))))
            ·
              refine x_aloadn (x := 125) rfl rfl ?_
              refine x_iloadn (x := a1) rfl rfl ?_
              refine x_iloadn (x := a2) rfl rfl ?_
              refine x_iloadn (x := a3) rfl rfl ?_
              refine x_inv (N := m_X12_guessFilled) (As := [.int a1, .int a2, .int a3]) (b := 125) (st := []) (d' := 99) (mc := 0) (ms := 0) (host := "") 12 rfl t_X12_guessFilled ⟨Or.inl q_12_484, i_X12_guessFilled.1, i_X12_guessFilled.2⟩ ⟨by decide, rfl⟩ (congrArg Prod.fst (sh_si (sh_si (sh_si (sh_si (F.1 125 (12, 92) rfl rfl)))))) rfl (by decide) rfl rfl ⟨by decide, by decide⟩ (c_guessFilled (by omega) (jFe_sf rfl rfl rfl (jFe_sf rfl rfl rfl (jFe_sf rfl rfl rfl (jFe_sf rfl rfl rfl (jFe_of F))))) ?_)
              show jX m_X12_fill 100 0 0 77 [(0, .ref 125), (1, .int a1), (2, .int a2), (3, .int a3), (4, .int a4), (5, .int a5)] [.int 0] _ 0 0 _
              refine x_iret rfl rfl ?_
              exact jqe (show sp_fill a1 a2 a3 a4 a5 = 0 by unfold sp_fill; (repeat' split) <;> first | rfl | (exfalso; omega)) (hQ _ (jOl_si rfl (jOl_si rfl (jOl_si rfl (jOl_si rfl O)))))
          ·
            refine x_iconst (v := (-1)) rfl ki_m1 ?_
            refine x_iret rfl rfl ?_
            exact jqe (show sp_fill a1 a2 a3 a4 a5 = (-1) by unfold sp_fill; (repeat' split) <;> first | rfl | (exfalso; omega)) (hQ _ (jOl_si rfl O))
