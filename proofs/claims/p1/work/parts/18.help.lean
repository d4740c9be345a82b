/-! helpers: tests of ranges -/
set_option maxRecDepth 10000 in
theorem c_X11_isDay {x : Int32} {d : Nat} {h : jH} {Q : Option Value → jH → Prop} (hQ : Q (some (.int (jp (0 ≤ x.toInt ∧ x.toInt ≤ 146399)))) h) : jC m_X11_isDay d 0 0 [.int x] h Q := by
  refine jC.of rfl k_X11_isDay rfl ?_
  show jX m_X11_isDay d 0 0 0 [(0, .int x)] [] _ 0 0 _
  refine x_iloadn (x := x) rfl rfl ?_
  refine x_iflt (tgt := 14) rfl rfl (ti_lt (show (x : Int32).toInt = x.toInt from rfl) (show (0 : Int32).toInt = 0 by decide) ⟨fun c1 => ?_, fun c1 => ?_⟩)
  ·
    refine x_iconst (v := 0) rfl ki_0 ?_
    refine x_zret rfl rfl (by first | decide | exact jp_01 _) ?_
    exact jp_f (by omega) hQ
  ·
    refine x_iloadn (x := x) rfl rfl ?_
    refine x_ldc (v := 146399) rfl z_11_233 ?_
    refine x_icgt (tgt := 14) rfl rfl (ti_gt (show (x : Int32).toInt = x.toInt from rfl) (show (146399 : Int32).toInt = 146399 by decide) ⟨fun c2 => ?_, fun c2 => ?_⟩)
    ·
      refine x_iconst (v := 0) rfl ki_0 ?_
      refine x_zret rfl rfl (by first | decide | exact jp_01 _) ?_
      exact jp_f (by omega) hQ
    ·
      refine x_iconst (v := 1) rfl ki_1 ?_
      refine x_goto (tgt := 15) rfl rfl ?_
      refine x_zret rfl rfl (by first | decide | exact jp_01 _) ?_
      exact jp_t (by omega) hQ
set_option maxRecDepth 10000 in
theorem c_X11_isYear {x : Int32} {d : Nat} {h : jH} {Q : Option Value → jH → Prop} (hQ : Q (some (.int (jp (0 ≤ x.toInt ∧ x.toInt ≤ 399)))) h) : jC m_X11_isYear d 0 0 [.int x] h Q := by
  refine jC.of rfl k_X11_isYear rfl ?_
  show jX m_X11_isYear d 0 0 0 [(0, .int x)] [] _ 0 0 _
  refine x_iloadn (x := x) rfl rfl ?_
  refine x_iflt (tgt := 15) rfl rfl (ti_lt (show (x : Int32).toInt = x.toInt from rfl) (show (0 : Int32).toInt = 0 by decide) ⟨fun c1 => ?_, fun c1 => ?_⟩)
  ·
    refine x_iconst (v := 0) rfl ki_0 ?_
    refine x_zret rfl rfl (by first | decide | exact jp_01 _) ?_
    exact jp_f (by omega) hQ
  ·
    refine x_iloadn (x := x) rfl rfl ?_
    refine x_sipush (v := 399) rfl ks_399 ?_
    refine x_icgt (tgt := 15) rfl rfl (ti_gt (show (x : Int32).toInt = x.toInt from rfl) (show (399 : Int32).toInt = 399 by decide) ⟨fun c2 => ?_, fun c2 => ?_⟩)
    ·
      refine x_iconst (v := 0) rfl ki_0 ?_
      refine x_zret rfl rfl (by first | decide | exact jp_01 _) ?_
      exact jp_f (by omega) hQ
    ·
      refine x_iconst (v := 1) rfl ki_1 ?_
      refine x_goto (tgt := 16) rfl rfl ?_
      refine x_zret rfl rfl (by first | decide | exact jp_01 _) ?_
      exact jp_t (by omega) hQ
set_option maxRecDepth 10000 in
theorem c_X11_isBook {x : Int32} {d : Nat} {h : jH} {Q : Option Value → jH → Prop} (hQ : Q (some (.int (jp (0 ≤ x.toInt ∧ x.toInt ≤ 5)))) h) : jC m_X11_isBook d 0 0 [.int x] h Q := by
  refine jC.of rfl k_X11_isBook rfl ?_
  show jX m_X11_isBook d 0 0 0 [(0, .int x)] [] _ 0 0 _
  refine x_iloadn (x := x) rfl rfl ?_
  refine x_iflt (tgt := 13) rfl rfl (ti_lt (show (x : Int32).toInt = x.toInt from rfl) (show (0 : Int32).toInt = 0 by decide) ⟨fun c1 => ?_, fun c1 => ?_⟩)
  ·
    refine x_iconst (v := 0) rfl ki_0 ?_
    refine x_zret rfl rfl (by first | decide | exact jp_01 _) ?_
    exact jp_f (by omega) hQ
  ·
    refine x_iloadn (x := x) rfl rfl ?_
    refine x_iconst (v := 5) rfl ki_5 ?_
    refine x_icgt (tgt := 13) rfl rfl (ti_gt (show (x : Int32).toInt = x.toInt from rfl) (show (5 : Int32).toInt = 5 by decide) ⟨fun c2 => ?_, fun c2 => ?_⟩)
    ·
      refine x_iconst (v := 0) rfl ki_0 ?_
      refine x_zret rfl rfl (by first | decide | exact jp_01 _) ?_
      exact jp_f (by omega) hQ
    ·
      refine x_iconst (v := 1) rfl ki_1 ?_
      refine x_goto (tgt := 14) rfl rfl ?_
      refine x_zret rfl rfl (by first | decide | exact jp_01 _) ?_
      exact jp_t (by omega) hQ
set_option maxRecDepth 10000 in
theorem c_X11_isOffice {x : Int32} {d : Nat} {h : jH} {Q : Option Value → jH → Prop} (hQ : Q (some (.int (jp (0 ≤ x.toInt ∧ x.toInt ≤ 3)))) h) : jC m_X11_isOffice d 0 0 [.int x] h Q := by
  refine jC.of rfl k_X11_isOffice rfl ?_
  show jX m_X11_isOffice d 0 0 0 [(0, .int x)] [] _ 0 0 _
  refine x_iloadn (x := x) rfl rfl ?_
  refine x_iflt (tgt := 13) rfl rfl (ti_lt (show (x : Int32).toInt = x.toInt from rfl) (show (0 : Int32).toInt = 0 by decide) ⟨fun c1 => ?_, fun c1 => ?_⟩)
  ·
    refine x_iconst (v := 0) rfl ki_0 ?_
    refine x_zret rfl rfl (by first | decide | exact jp_01 _) ?_
    exact jp_f (by omega) hQ
  ·
    refine x_iloadn (x := x) rfl rfl ?_
    refine x_iconst (v := 3) rfl ki_3 ?_
    refine x_icgt (tgt := 13) rfl rfl (ti_gt (show (x : Int32).toInt = x.toInt from rfl) (show (3 : Int32).toInt = 3 by decide) ⟨fun c2 => ?_, fun c2 => ?_⟩)
    ·
      refine x_iconst (v := 0) rfl ki_0 ?_
      refine x_zret rfl rfl (by first | decide | exact jp_01 _) ?_
      exact jp_f (by omega) hQ
    ·
      refine x_iconst (v := 1) rfl ki_1 ?_
      refine x_goto (tgt := 14) rfl rfl ?_
      refine x_zret rfl rfl (by first | decide | exact jp_01 _) ?_
      exact jp_t (by omega) hQ
set_option maxRecDepth 10000 in
theorem c_X11_isCrop {x : Int32} {d : Nat} {h : jH} {Q : Option Value → jH → Prop} (hQ : Q (some (.int (jp (0 ≤ x.toInt ∧ x.toInt ≤ 2)))) h) : jC m_X11_isCrop d 0 0 [.int x] h Q := by
  refine jC.of rfl k_X11_isCrop rfl ?_
  show jX m_X11_isCrop d 0 0 0 [(0, .int x)] [] _ 0 0 _
  refine x_iloadn (x := x) rfl rfl ?_
  refine x_iflt (tgt := 13) rfl rfl (ti_lt (show (x : Int32).toInt = x.toInt from rfl) (show (0 : Int32).toInt = 0 by decide) ⟨fun c1 => ?_, fun c1 => ?_⟩)
  ·
    refine x_iconst (v := 0) rfl ki_0 ?_
    refine x_zret rfl rfl (by first | decide | exact jp_01 _) ?_
    exact jp_f (by omega) hQ
  ·
    refine x_iloadn (x := x) rfl rfl ?_
    refine x_iconst (v := 3) rfl ki_3 ?_
    refine x_icge (tgt := 13) rfl rfl (ti_ge (show (x : Int32).toInt = x.toInt from rfl) (show (3 : Int32).toInt = 3 by decide) ⟨fun c2 => ?_, fun c2 => ?_⟩)
    ·
      refine x_iconst (v := 0) rfl ki_0 ?_
      refine x_zret rfl rfl (by first | decide | exact jp_01 _) ?_
      exact jp_f (by omega) hQ
    ·
      refine x_iconst (v := 1) rfl ki_1 ?_
      refine x_goto (tgt := 14) rfl rfl ?_
      refine x_zret rfl rfl (by first | decide | exact jp_01 _) ?_
      exact jp_t (by omega) hQ
set_option maxRecDepth 10000 in
theorem c_X11_isWithin {x a c : Int32} {m i j : Int} {d : Nat} {h : jH} {Q : Option Value → jH → Prop} (hx : x.toInt = m) (ha : a.toInt = i) (hc : c.toInt = j) (hQ : Q (some (.int (jp (i ≤ m ∧ m ≤ j)))) h) : jC m_X11_isWithin d 0 0 [.int x, .int a, .int c] h Q := by
  subst hx; subst ha; subst hc
  refine jC.of rfl k_X11_isWithin rfl ?_
  show jX m_X11_isWithin d 0 0 0 [(0, .int x), (1, .int a), (2, .int c)] [] _ 0 0 _
  refine x_iloadn (x := x) rfl rfl ?_
  refine x_iloadn (x := a) rfl rfl ?_
  refine x_iclt (tgt := 14) rfl rfl (ti_lt (show (x : Int32).toInt = x.toInt from rfl) (show (a : Int32).toInt = a.toInt from rfl) ⟨fun c1 => ?_, fun c1 => ?_⟩)
  ·
    refine x_iconst (v := 0) rfl ki_0 ?_
    refine x_zret rfl rfl (by first | decide | exact jp_01 _) ?_
    exact jp_f (by omega) hQ
  ·
    refine x_iloadn (x := x) rfl rfl ?_
    refine x_iloadn (x := c) rfl rfl ?_
    refine x_icgt (tgt := 14) rfl rfl (ti_gt (show (x : Int32).toInt = x.toInt from rfl) (show (c : Int32).toInt = c.toInt from rfl) ⟨fun c2 => ?_, fun c2 => ?_⟩)
    ·
      refine x_iconst (v := 0) rfl ki_0 ?_
      refine x_zret rfl rfl (by first | decide | exact jp_01 _) ?_
      exact jp_f (by omega) hQ
    ·
      refine x_iconst (v := 1) rfl ki_1 ?_
      refine x_goto (tgt := 15) rfl rfl ?_
      refine x_zret rfl rfl (by first | decide | exact jp_01 _) ?_
      exact jp_t (by omega) hQ
theorem jqe {Q : Option Value → jH → Prop} {x y : Int32} {h : jH} (e : y = x) (q : Q (some (.int y)) h) : Q (some (.int x)) h := e ▸ q
theorem jqel {Q : Option Value → jH → Prop} {x y : Int64} {h : jH} (e : y = x) (q : Q (some (.long y)) h) : Q (some (.long x)) h := e ▸ q
theorem jlg_self (x : Int64) : lg_cmp x x = 0 := (lg_cmp_eq x x).mpr rfl
theorem kb_m6 : (Int8.ofInt (-6)).toInt32 = (-6) := by decide
theorem kb_m4 : (Int8.ofInt (-4)).toInt32 = (-4) := by decide
theorem kb_m3 : (Int8.ofInt (-3)).toInt32 = (-3) := by decide
theorem kb_m2 : (Int8.ofInt (-2)).toInt32 = (-2) := by decide
theorem kb_7 : (Int8.ofInt 7).toInt32 = 7 := by decide
theorem kb_11 : (Int8.ofInt 11).toInt32 = 11 := by decide
theorem kb_12 : (Int8.ofInt 12).toInt32 = 12 := by decide
theorem kb_13 : (Int8.ofInt 13).toInt32 = 13 := by decide
theorem kb_15 : (Int8.ofInt 15).toInt32 = 15 := by decide
theorem kb_28 : (Int8.ofInt 28).toInt32 = 28 := by decide
theorem kb_36 : (Int8.ofInt 36).toInt32 = 36 := by decide
theorem ks_365 : (Int16.ofInt 365).toInt32 = 365 := by decide
theorem ks_366 : (Int16.ofInt 366).toInt32 = 366 := by decide
theorem ks_399 : (Int16.ofInt 399).toInt32 = 399 := by decide
theorem ks_720 : (Int16.ofInt 720).toInt32 = 720 := by decide
theorem ks_924 : (Int16.ofInt 924).toInt32 = 924 := by decide
theorem ks_1000 : (Int16.ofInt 1000).toInt32 = 1000 := by decide
theorem ks_10000 : (Int16.ofInt 10000).toInt32 = 10000 := by decide
theorem ks_18020 : (Int16.ofInt 18020).toInt32 = 18020 := by decide
theorem ks_18740 : (Int16.ofInt 18740).toInt32 = 18740 := by decide
theorem ks_18820 : (Int16.ofInt 18820).toInt32 = 18820 := by decide
