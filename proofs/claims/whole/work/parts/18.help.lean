/-! helpers: tests of ranges -/
theorem ks_18740 : (Int16.ofInt 18740).toInt32 = 18740 := by decide
theorem ks_10000 : (Int16.ofInt 10000).toInt32 = 10000 := by decide
theorem ks_1000 : (Int16.ofInt 1000).toInt32 = 1000 := by decide
theorem ks_399 : (Int16.ofInt 399).toInt32 = 399 := by decide
theorem ks_255 : (Int16.ofInt 255).toInt32 = 255 := by decide
theorem kb_63 : (Int8.ofInt 63).toInt32 = 63 := by decide
theorem kb_46 : (Int8.ofInt 46).toInt32 = 46 := by decide
theorem kb_36 : (Int8.ofInt 36).toInt32 = 36 := by decide
theorem kb_24 : (Int8.ofInt 24).toInt32 = 24 := by decide
theorem kb_15 : (Int8.ofInt 15).toInt32 = 15 := by decide
theorem kb_13 : (Int8.ofInt 13).toInt32 = 13 := by decide
theorem kb_12 : (Int8.ofInt 12).toInt32 = 12 := by decide
theorem kb_11 : (Int8.ofInt 11).toInt32 = 11 := by decide
theorem kb_7 : (Int8.ofInt 7).toInt32 = 7 := by decide
theorem kb_m2 : (Int8.ofInt (-2)).toInt32 = (-2) := by decide
theorem kb_m3 : (Int8.ofInt (-3)).toInt32 = (-3) := by decide
theorem kb_m6 : (Int8.ofInt (-6)).toInt32 = (-6) := by decide
set_option maxRecDepth 10000 in
theorem c_X11_isDay {x : Int32} {d : Nat} {h : jH} {Q : Option Value → jH → Prop} (hQ : Q (some (.int (jp (0 ≤ x.toInt ∧ x.toInt ≤ 146399)))) h) : jC m_X11_isDay d 0 0 [.int x] h Q := by
  refine jC.of rfl k_X11_isDay rfl ?_
  show jX m_X11_isDay d 0 0 0 [(0, .int x)] [] _ 0 0 _
  refine x_iloadn (x := x) rfl rfl ?_
  refine x_iflt (tgt := 14) rfl rfl (ti_lt (show (x : Int32).toInt = x.toInt from rfl) (show (0 : Int32).toInt = 0 by decide) ⟨fun c1 => ?_, fun c1 => ?_⟩)
  ·
    refine x_iconst (v := 0) rfl ki_0 ?_
    refine x_zret rfl rfl (by first | decide | exact jp_01 _) ?_
    exact jp_f (by omega) hQ
  ·
    refine x_iloadn (x := x) rfl rfl ?_
    refine x_ldc (v := 146399) rfl z_11_233 ?_
    refine x_icgt (tgt := 14) rfl rfl (ti_gt (show (x : Int32).toInt = x.toInt from rfl) (show (146399 : Int32).toInt = 146399 by decide) ⟨fun c2 => ?_, fun c2 => ?_⟩)
    ·
      refine x_iconst (v := 0) rfl ki_0 ?_
      refine x_zret rfl rfl (by first | decide | exact jp_01 _) ?_
      exact jp_f (by omega) hQ
    ·
      refine x_iconst (v := 1) rfl ki_1 ?_
      refine x_goto (tgt := 15) rfl rfl ?_
      refine x_zret rfl rfl (by first | decide | exact jp_01 _) ?_
      exact jp_t (by omega) hQ
set_option maxRecDepth 10000 in
theorem c_X11_isYear {x : Int32} {d : Nat} {h : jH} {Q : Option Value → jH → Prop} (hQ : Q (some (.int (jp (0 ≤ x.toInt ∧ x.toInt ≤ 399)))) h) : jC m_X11_isYear d 0 0 [.int x] h Q := by
  refine jC.of rfl k_X11_isYear rfl ?_
  show jX m_X11_isYear d 0 0 0 [(0, .int x)] [] _ 0 0 _
  refine x_iloadn (x := x) rfl rfl ?_
  refine x_iflt (tgt := 15) rfl rfl (ti_lt (show (x : Int32).toInt = x.toInt from rfl) (show (0 : Int32).toInt = 0 by decide) ⟨fun c1 => ?_, fun c1 => ?_⟩)
  ·
    refine x_iconst (v := 0) rfl ki_0 ?_
    refine x_zret rfl rfl (by first | decide | exact jp_01 _) ?_
    exact jp_f (by omega) hQ
  ·
    refine x_iloadn (x := x) rfl rfl ?_
    refine x_sipush (v := 399) rfl ks_399 ?_
    refine x_icgt (tgt := 15) rfl rfl (ti_gt (show (x : Int32).toInt = x.toInt from rfl) (show (399 : Int32).toInt = 399 by decide) ⟨fun c2 => ?_, fun c2 => ?_⟩)
    ·
      refine x_iconst (v := 0) rfl ki_0 ?_
      refine x_zret rfl rfl (by first | decide | exact jp_01 _) ?_
      exact jp_f (by omega) hQ
    ·
      refine x_iconst (v := 1) rfl ki_1 ?_
      refine x_goto (tgt := 16) rfl rfl ?_
      refine x_zret rfl rfl (by first | decide | exact jp_01 _) ?_
      exact jp_t (by omega) hQ
set_option maxRecDepth 10000 in
theorem c_X11_isBook {x : Int32} {d : Nat} {h : jH} {Q : Option Value → jH → Prop} (hQ : Q (some (.int (jp (0 ≤ x.toInt ∧ x.toInt ≤ 5)))) h) : jC m_X11_isBook d 0 0 [.int x] h Q := by
  refine jC.of rfl k_X11_isBook rfl ?_
  show jX m_X11_isBook d 0 0 0 [(0, .int x)] [] _ 0 0 _
  refine x_iloadn (x := x) rfl rfl ?_
  refine x_iflt (tgt := 13) rfl rfl (ti_lt (show (x : Int32).toInt = x.toInt from rfl) (show (0 : Int32).toInt = 0 by decide) ⟨fun c1 => ?_, fun c1 => ?_⟩)
  ·
    refine x_iconst (v := 0) rfl ki_0 ?_
    refine x_zret rfl rfl (by first | decide | exact jp_01 _) ?_
    exact jp_f (by omega) hQ
  ·
    refine x_iloadn (x := x) rfl rfl ?_
    refine x_iconst (v := 5) rfl ki_5 ?_
    refine x_icgt (tgt := 13) rfl rfl (ti_gt (show (x : Int32).toInt = x.toInt from rfl) (show (5 : Int32).toInt = 5 by decide) ⟨fun c2 => ?_, fun c2 => ?_⟩)
    ·
      refine x_iconst (v := 0) rfl ki_0 ?_
      refine x_zret rfl rfl (by first | decide | exact jp_01 _) ?_
      exact jp_f (by omega) hQ
    ·
      refine x_iconst (v := 1) rfl ki_1 ?_
      refine x_goto (tgt := 14) rfl rfl ?_
      refine x_zret rfl rfl (by first | decide | exact jp_01 _) ?_
      exact jp_t (by omega) hQ
set_option maxRecDepth 10000 in
theorem c_X11_isOffice {x : Int32} {d : Nat} {h : jH} {Q : Option Value → jH → Prop} (hQ : Q (some (.int (jp (0 ≤ x.toInt ∧ x.toInt ≤ 3)))) h) : jC m_X11_isOffice d 0 0 [.int x] h Q := by
  refine jC.of rfl k_X11_isOffice rfl ?_
  show jX m_X11_isOffice d 0 0 0 [(0, .int x)] [] _ 0 0 _
  refine x_iloadn (x := x) rfl rfl ?_
  refine x_iflt (tgt := 13) rfl rfl (ti_lt (show (x : Int32).toInt = x.toInt from rfl) (show (0 : Int32).toInt = 0 by decide) ⟨fun c1 => ?_, fun c1 => ?_⟩)
  ·
    refine x_iconst (v := 0) rfl ki_0 ?_
    refine x_zret rfl rfl (by first | decide | exact jp_01 _) ?_
    exact jp_f (by omega) hQ
  ·
    refine x_iloadn (x := x) rfl rfl ?_
    refine x_iconst (v := 3) rfl ki_3 ?_
    refine x_icgt (tgt := 13) rfl rfl (ti_gt (show (x : Int32).toInt = x.toInt from rfl) (show (3 : Int32).toInt = 3 by decide) ⟨fun c2 => ?_, fun c2 => ?_⟩)
    ·
      refine x_iconst (v := 0) rfl ki_0 ?_
      refine x_zret rfl rfl (by first | decide | exact jp_01 _) ?_
      exact jp_f (by omega) hQ
    ·
      refine x_iconst (v := 1) rfl ki_1 ?_
      refine x_goto (tgt := 14) rfl rfl ?_
      refine x_zret rfl rfl (by first | decide | exact jp_01 _) ?_
      exact jp_t (by omega) hQ
set_option maxRecDepth 10000 in
theorem c_X11_isCrop {x : Int32} {d : Nat} {h : jH} {Q : Option Value → jH → Prop} (hQ : Q (some (.int (jp (0 ≤ x.toInt ∧ x.toInt ≤ 2)))) h) : jC m_X11_isCrop d 0 0 [.int x] h Q := by
  refine jC.of rfl k_X11_isCrop rfl ?_
  show jX m_X11_isCrop d 0 0 0 [(0, .int x)] [] _ 0 0 _
  refine x_iloadn (x := x) rfl rfl ?_
  refine x_iflt (tgt := 13) rfl rfl (ti_lt (show (x : Int32).toInt = x.toInt from rfl) (show (0 : Int32).toInt = 0 by decide) ⟨fun c1 => ?_, fun c1 => ?_⟩)
  ·
    refine x_iconst (v := 0) rfl ki_0 ?_
    refine x_zret rfl rfl (by first | decide | exact jp_01 _) ?_
    exact jp_f (by omega) hQ
  ·
    refine x_iloadn (x := x) rfl rfl ?_
    refine x_iconst (v := 3) rfl ki_3 ?_
    refine x_icge (tgt := 13) rfl rfl (ti_ge (show (x : Int32).toInt = x.toInt from rfl) (show (3 : Int32).toInt = 3 by decide) ⟨fun c2 => ?_, fun c2 => ?_⟩)
    ·
      refine x_iconst (v := 0) rfl ki_0 ?_
      refine x_zret rfl rfl (by first | decide | exact jp_01 _) ?_
      exact jp_f (by omega) hQ
    ·
      refine x_iconst (v := 1) rfl ki_1 ?_
      refine x_goto (tgt := 14) rfl rfl ?_
      refine x_zret rfl rfl (by first | decide | exact jp_01 _) ?_
      exact jp_t (by omega) hQ
set_option maxRecDepth 10000 in
theorem c_X11_isWithin {x a c : Int32} {m i j : Int} {d : Nat} {h : jH} {Q : Option Value → jH → Prop} (hx : x.toInt = m) (ha : a.toInt = i) (hc : c.toInt = j) (hQ : Q (some (.int (jp (i ≤ m ∧ m ≤ j)))) h) : jC m_X11_isWithin d 0 0 [.int x, .int a, .int c] h Q := by
  subst hx; subst ha; subst hc
  refine jC.of rfl k_X11_isWithin rfl ?_
  show jX m_X11_isWithin d 0 0 0 [(0, .int x), (1, .int a), (2, .int c)] [] _ 0 0 _
  refine x_iloadn (x := x) rfl rfl ?_
  refine x_iloadn (x := a) rfl rfl ?_
  refine x_iclt (tgt := 14) rfl rfl (ti_lt (show (x : Int32).toInt = x.toInt from rfl) (show (a : Int32).toInt = a.toInt from rfl) ⟨fun c1 => ?_, fun c1 => ?_⟩)
  ·
    refine x_iconst (v := 0) rfl ki_0 ?_
    refine x_zret rfl rfl (by first | decide | exact jp_01 _) ?_
    exact jp_f (by omega) hQ
  ·
    refine x_iloadn (x := x) rfl rfl ?_
    refine x_iloadn (x := c) rfl rfl ?_
    refine x_icgt (tgt := 14) rfl rfl (ti_gt (show (x : Int32).toInt = x.toInt from rfl) (show (c : Int32).toInt = c.toInt from rfl) ⟨fun c2 => ?_, fun c2 => ?_⟩)
    ·
      refine x_iconst (v := 0) rfl ki_0 ?_
      refine x_zret rfl rfl (by first | decide | exact jp_01 _) ?_
      exact jp_f (by omega) hQ
    ·
      refine x_iconst (v := 1) rfl ki_1 ?_
      refine x_goto (tgt := 15) rfl rfl ?_
      refine x_zret rfl rfl (by first | decide | exact jp_01 _) ?_
      exact jp_t (by omega) hQ
set_option maxRecDepth 10000 in
theorem c_X11_fitsBook {x y : Int32} {h : jH} {Q : Option Value → jH → Prop} (hQ : Q (some (.int (jp ((x.toInt = 2 ∧ -1 ≤ y.toInt ∧ y.toInt ≤ 120) ∨ ((x.toInt = 3 ∨ x.toInt = 4) ∧ 0 ≤ y.toInt ∧ y.toInt ≤ 100000) ∨ (x.toInt = 5 ∧ 1 ≤ y.toInt ∧ y.toInt ≤ 11) ∨ ((x.toInt < 2 ∨ 5 < x.toInt) ∧ y.toInt = -1))))) h) : jC m_X11_fitsBook 99 0 0 [.int x, .int y] h Q := by
  refine jC.of rfl k_X11_fitsBook rfl ?_
  show jX m_X11_fitsBook 99 0 0 0 [(0, .int x), (1, .int y)] [] _ 0 0 _
  refine x_iloadn (x := x) rfl rfl ?_
  by_cases c1 : x.toInt = 2
  ·
    refine x_tableIn (tgt := 32) 2 rfl c1 (by decide) (by decide) rfl rfl ?_
    refine x_iloadn (x := y) rfl rfl ?_
    refine x_iconst (v := (-1)) rfl ki_m1 ?_
    refine x_bipush (v := 120) rfl kb_120 ?_
    refine x_inst (N := m_X11_isWithin) (As := [.int y, .int (-1), .int 120]) (st := []) (dx9 := 98) (mc := 0) (ms := 0) (host := "") rfl t_X11_isWithin ⟨Or.inl q_11_202, s_X11_isWithin⟩ rfl (by decide) rfl rfl ⟨by decide, by decide⟩ (c_X11_isWithin (m := y.toInt) (i := (-1)) (j := 120) rfl (by decide) (by decide) ?_)
    show jX m_X11_fitsBook 99 0 0 39 [(0, .int x), (1, .int y)] [.int (jp ((-1) ≤ y.toInt ∧ y.toInt ≤ 120))] _ 0 0 _
    refine x_zret rfl rfl (by first | decide | exact jp_01 _) ?_
    exact jp_i (by omega) hQ
  by_cases c2 : x.toInt = 3
  ·
    refine x_tableIn (tgt := 40) 3 rfl c2 (by decide) (by decide) rfl rfl ?_
    refine x_iloadn (x := y) rfl rfl ?_
    refine x_iconst (v := 0) rfl ki_0 ?_
    refine x_ldcw (v := 100000) rfl z_11_531 ?_
    refine x_inst (N := m_X11_isWithin) (As := [.int y, .int 0, .int 100000]) (st := []) (dx9 := 98) (mc := 0) (ms := 0) (host := "") rfl t_X11_isWithin ⟨Or.inl q_11_202, s_X11_isWithin⟩ rfl (by decide) rfl rfl ⟨by decide, by decide⟩ (c_X11_isWithin (m := y.toInt) (i := 0) (j := 100000) rfl (by decide) (by decide) ?_)
    show jX m_X11_fitsBook 99 0 0 48 [(0, .int x), (1, .int y)] [.int (jp (0 ≤ y.toInt ∧ y.toInt ≤ 100000))] _ 0 0 _
    refine x_zret rfl rfl (by first | decide | exact jp_01 _) ?_
    exact jp_i (by omega) hQ
  by_cases c3 : x.toInt = 4
  ·
    refine x_tableIn (tgt := 40) 4 rfl c3 (by decide) (by decide) rfl rfl ?_
    refine x_iloadn (x := y) rfl rfl ?_
    refine x_iconst (v := 0) rfl ki_0 ?_
    refine x_ldcw (v := 100000) rfl z_11_531 ?_
    refine x_inst (N := m_X11_isWithin) (As := [.int y, .int 0, .int 100000]) (st := []) (dx9 := 98) (mc := 0) (ms := 0) (host := "") rfl t_X11_isWithin ⟨Or.inl q_11_202, s_X11_isWithin⟩ rfl (by decide) rfl rfl ⟨by decide, by decide⟩ (c_X11_isWithin (m := y.toInt) (i := 0) (j := 100000) rfl (by decide) (by decide) ?_)
    show jX m_X11_fitsBook 99 0 0 48 [(0, .int x), (1, .int y)] [.int (jp (0 ≤ y.toInt ∧ y.toInt ≤ 100000))] _ 0 0 _
    refine x_zret rfl rfl (by first | decide | exact jp_01 _) ?_
    exact jp_i (by omega) hQ
  by_cases c4 : x.toInt = 5
  ·
    refine x_tableIn (tgt := 49) 5 rfl c4 (by decide) (by decide) rfl rfl ?_
    refine x_iloadn (x := y) rfl rfl ?_
    refine x_iconst (v := 1) rfl ki_1 ?_
    refine x_bipush (v := 11) rfl kb_11 ?_
    refine x_inst (N := m_X11_isWithin) (As := [.int y, .int 1, .int 11]) (st := []) (dx9 := 98) (mc := 0) (ms := 0) (host := "") rfl t_X11_isWithin ⟨Or.inl q_11_202, s_X11_isWithin⟩ rfl (by decide) rfl rfl ⟨by decide, by decide⟩ (c_X11_isWithin (m := y.toInt) (i := 1) (j := 11) rfl (by decide) (by decide) ?_)
    show jX m_X11_fitsBook 99 0 0 56 [(0, .int x), (1, .int y)] [.int (jp (1 ≤ y.toInt ∧ y.toInt ≤ 11))] _ 0 0 _
    refine x_zret rfl rfl (by first | decide | exact jp_01 _) ?_
    exact jp_i (by omega) hQ
  refine x_tableOut (tgt := 57) rfl (by omega) rfl ?_
  refine x_iloadn (x := y) rfl rfl ?_
  refine x_iconst (v := (-1)) rfl ki_m1 ?_
  refine x_icne (tgt := 66) rfl rfl (ti_ne (show (y : Int32).toInt = y.toInt from rfl) (show ((-1) : Int32).toInt = (-1) by decide) ⟨fun c5 => ?_, fun c5 => ?_⟩)
  ·
    refine x_iconst (v := 0) rfl ki_0 ?_
    refine x_zret rfl rfl (by first | decide | exact jp_01 _) ?_
    exact jp_f (by omega) hQ
  ·
    refine x_iconst (v := 1) rfl ki_1 ?_
    refine x_goto (tgt := 67) rfl rfl ?_
    refine x_zret rfl rfl (by first | decide | exact jp_01 _) ?_
    exact jp_t (by omega) hQ
set_option maxRecDepth 10000 in
theorem c_X12_isNumber {x y : Int32} {h : jH} {Q : Option Value → jH → Prop} (hQ : Q (some (.int (jp ((x.toInt = 2 ∧ -1 ≤ y.toInt ∧ y.toInt ≤ 120) ∨ ((x.toInt = 3 ∨ x.toInt = 4) ∧ 0 ≤ y.toInt ∧ y.toInt ≤ 100000) ∨ (x.toInt = 5 ∧ 1 ≤ y.toInt ∧ y.toInt ≤ 11) ∨ ((x.toInt < 2 ∨ 5 < x.toInt) ∧ y.toInt = -1))))) h) : jC m_X12_isNumber 99 0 0 [.int x, .int y] h Q := by
  refine jC.of rfl k_X12_isNumber rfl ?_
  show jX m_X12_isNumber 99 0 0 0 [(0, .int x), (1, .int y)] [] _ 0 0 _
  refine x_iloadn (x := x) rfl rfl ?_
  by_cases c1 : x.toInt = 2
  ·
    refine x_tableIn (tgt := 32) 2 rfl c1 (by decide) (by decide) rfl rfl ?_
    refine x_iloadn (x := y) rfl rfl ?_
    refine x_i2l rfl ?_
    refine x_ldc2 (v := (-1)) rfl z_12_242 ?_
    refine x_ldc2 (v := 120) rfl z_12_263 ?_
    refine x_inst (N := m_X12_in) (As := [.long (y.toInt64), .long (-1), .long 120]) (st := []) (dx9 := 98) (mc := 0) (ms := 0) (host := "") rfl t_X12_in ⟨Or.inl q_12_188, s_X12_in⟩ rfl (by decide) rfl rfl ⟨by decide, by decide⟩ (c_X12_in (m := y.toInt) (a := (-1)) (b := 120) (jt_l _) (by decide) (by decide) ?_)
    show jX m_X12_isNumber 99 0 0 43 [(0, .int x), (1, .int y)] [.int (jp ((-1) ≤ y.toInt ∧ y.toInt ≤ 120))] _ 0 0 _
    refine x_zret rfl rfl (by first | decide | exact jp_01 _) ?_
    exact jp_i (by omega) hQ
  by_cases c2 : x.toInt = 3
  ·
    refine x_tableIn (tgt := 44) 3 rfl c2 (by decide) (by decide) rfl rfl ?_
    refine x_iloadn (x := y) rfl rfl ?_
    refine x_i2l rfl ?_
    refine x_lconst (v := 0) rfl kl_0 ?_
    refine x_ldc2 (v := 100000) rfl z_12_265 ?_
    refine x_inst (N := m_X12_in) (As := [.long (y.toInt64), .long 0, .long 100000]) (st := []) (dx9 := 98) (mc := 0) (ms := 0) (host := "") rfl t_X12_in ⟨Or.inl q_12_188, s_X12_in⟩ rfl (by decide) rfl rfl ⟨by decide, by decide⟩ (c_X12_in (m := y.toInt) (a := 0) (b := 100000) (jt_l _) (by decide) (by decide) ?_)
    show jX m_X12_isNumber 99 0 0 53 [(0, .int x), (1, .int y)] [.int (jp (0 ≤ y.toInt ∧ y.toInt ≤ 100000))] _ 0 0 _
    refine x_zret rfl rfl (by first | decide | exact jp_01 _) ?_
    exact jp_i (by omega) hQ
  by_cases c3 : x.toInt = 4
  ·
    refine x_tableIn (tgt := 44) 4 rfl c3 (by decide) (by decide) rfl rfl ?_
    refine x_iloadn (x := y) rfl rfl ?_
    refine x_i2l rfl ?_
    refine x_lconst (v := 0) rfl kl_0 ?_
    refine x_ldc2 (v := 100000) rfl z_12_265 ?_
    refine x_inst (N := m_X12_in) (As := [.long (y.toInt64), .long 0, .long 100000]) (st := []) (dx9 := 98) (mc := 0) (ms := 0) (host := "") rfl t_X12_in ⟨Or.inl q_12_188, s_X12_in⟩ rfl (by decide) rfl rfl ⟨by decide, by decide⟩ (c_X12_in (m := y.toInt) (a := 0) (b := 100000) (jt_l _) (by decide) (by decide) ?_)
    show jX m_X12_isNumber 99 0 0 53 [(0, .int x), (1, .int y)] [.int (jp (0 ≤ y.toInt ∧ y.toInt ≤ 100000))] _ 0 0 _
    refine x_zret rfl rfl (by first | decide | exact jp_01 _) ?_
    exact jp_i (by omega) hQ
  by_cases c4 : x.toInt = 5
  ·
    refine x_tableIn (tgt := 54) 5 rfl c4 (by decide) (by decide) rfl rfl ?_
    refine x_iloadn (x := y) rfl rfl ?_
    refine x_i2l rfl ?_
    refine x_lconst (v := 1) rfl kl_1 ?_
    refine x_ldc2 (v := 11) rfl z_12_267 ?_
    refine x_inst (N := m_X12_in) (As := [.long (y.toInt64), .long 1, .long 11]) (st := []) (dx9 := 98) (mc := 0) (ms := 0) (host := "") rfl t_X12_in ⟨Or.inl q_12_188, s_X12_in⟩ rfl (by decide) rfl rfl ⟨by decide, by decide⟩ (c_X12_in (m := y.toInt) (a := 1) (b := 11) (jt_l _) (by decide) (by decide) ?_)
    show jX m_X12_isNumber 99 0 0 63 [(0, .int x), (1, .int y)] [.int (jp (1 ≤ y.toInt ∧ y.toInt ≤ 11))] _ 0 0 _
    refine x_zret rfl rfl (by first | decide | exact jp_01 _) ?_
    exact jp_i (by omega) hQ
  refine x_tableOut (tgt := 64) rfl (by omega) rfl ?_
  refine x_iloadn (x := y) rfl rfl ?_
  refine x_iconst (v := (-1)) rfl ki_m1 ?_
  refine x_icne (tgt := 73) rfl rfl (ti_ne (show (y : Int32).toInt = y.toInt from rfl) (show ((-1) : Int32).toInt = (-1) by decide) ⟨fun c5 => ?_, fun c5 => ?_⟩)
  ·
    refine x_iconst (v := 0) rfl ki_0 ?_
    refine x_zret rfl rfl (by first | decide | exact jp_01 _) ?_
    exact jp_f (by omega) hQ
  ·
    refine x_iconst (v := 1) rfl ki_1 ?_
    refine x_goto (tgt := 74) rfl rfl ?_
    refine x_zret rfl rfl (by first | decide | exact jp_01 _) ?_
    exact jp_t (by omega) hQ
theorem jqe {Q : Option Value → jH → Prop} {x y : Int32} {h : jH} (e : y = x) (q : Q (some (.int y)) h) : Q (some (.int x)) h := e ▸ q
theorem jqel {Q : Option Value → jH → Prop} {x y : Int64} {h : jH} (e : y = x) (q : Q (some (.long y)) h) : Q (some (.long x)) h := e ▸ q
theorem jlg_self (x : Int64) : lg_cmp x x = 0 := (lg_cmp_eq x x).mpr rfl
theorem jdivn {x y : Int32} {n : Int} (hy : y.toInt = n) (hn : 0 < n) (hx : 0 ≤ x.toInt) : (x / y).toInt = x.toInt / n := by
  have h2 := Int32.toInt_lt x
  have h3 : x.toInt / n ≤ x.toInt := Int.ediv_le_self _ hx
  have h4 : 0 ≤ x.toInt / n := Int.ediv_nonneg hx (by omega)
  rw [Int32.toInt_div, hy, Int.tdiv_eq_ediv_of_nonneg hx]
  exact Int.bmod_eq_of_le (by omega) (by omega)
theorem jmulr {x y : Int32} {n : Int} (hy : y.toInt = n) (h : -2147483648 ≤ x.toInt * n ∧ x.toInt * n ≤ 2147483647) : (x * y).toInt = x.toInt * n := by
  rw [Int32.toInt_mul, hy]
  exact Int.bmod_eq_of_le (by omega) (by omega)
theorem jmull {x y : Int32} {n : Int} (hx : x.toInt = n) (h : -2147483648 ≤ n * y.toInt ∧ n * y.toInt ≤ 2147483647) : (x * y).toInt = n * y.toInt := by
  rw [Int32.toInt_mul, hx]
  exact Int.bmod_eq_of_le (by omega) (by omega)
theorem jaddf {x y : Int32} {m n : Int} (hx : x.toInt = m) (hy : y.toInt = n) (h : -2147483648 ≤ m + n ∧ m + n ≤ 2147483647) : (x + y).toInt = m + n := by
  rw [Int32.toInt_add, hx, hy]
  exact Int.bmod_eq_of_le (by omega) (by omega)
theorem jsubf {x y : Int32} {m n : Int} (hx : x.toInt = m) (hy : y.toInt = n) (h : -2147483648 ≤ m - n ∧ m - n ≤ 2147483647) : (x - y).toInt = m - n := by
  rw [Int32.toInt_sub, hx, hy]
  exact Int.bmod_eq_of_le (by omega) (by omega)
theorem jclv {i : Int32} {n : Nat} (h : i.toInt = n) : i.toNatClampNeg = n := by
  show i.toInt.toNat = n
  rw [h]; simp
theorem jro1 {xs : Nat → Int32} {h : jH} (O : jOl 7 xs h) {i : Int32} (hi : 0 ≤ i.toInt ∧ i.toInt < 6) : ∃ r : Int32, jiv h 1 i.toNatClampNeg = r ∧ 1 ≤ r.toInt ∧ r.toInt ≤ 3 := by
  refine ⟨_, rfl, ?_⟩
  rw [(O 1 (by decide)).2]
  have e : i.toNatClampNeg < 6 := by
    show i.toInt.toNat < 6
    omega
  generalize i.toNatClampNeg = n at e
  have : ∀ n, n < 6 → 1 ≤ (jiv (jh0 7 xs) 1 n).toInt ∧ (jiv (jh0 7 xs) 1 n).toInt ≤ 3 := fun n hn => by
    show 1 ≤ (([3, 2, 1, 1, 1, 1] : List Int32).getD n 0).toInt ∧ (([3, 2, 1, 1, 1, 1] : List Int32).getD n 0).toInt ≤ 3
    revert n; decide
  exact this n e
theorem jro2 {xs : Nat → Int32} {h : jH} (O : jOl 7 xs h) {i : Int32} (hi : 0 ≤ i.toInt ∧ i.toInt < 6) : ∃ r : Int32, jiv h 2 i.toNatClampNeg = r ∧ 0 ≤ r.toInt ∧ r.toInt ≤ 8 := by
  refine ⟨_, rfl, ?_⟩
  rw [(O 2 (by decide)).2]
  have e : i.toNatClampNeg < 6 := by
    show i.toInt.toNat < 6
    omega
  generalize i.toNatClampNeg = n at e
  have : ∀ n, n < 6 → 0 ≤ (jiv (jh0 7 xs) 2 n).toInt ∧ (jiv (jh0 7 xs) 2 n).toInt ≤ 8 := fun n hn => by
    show 0 ≤ (([0, 3, 5, 6, 7, 8] : List Int32).getD n 0).toInt ∧ (([0, 3, 5, 6, 7, 8] : List Int32).getD n 0).toInt ≤ 8
    revert n; decide
  exact this n e
theorem jlk_out2 {x : Int} {a : Int} (h : ¬ x = a) : ¬ x = a := h
