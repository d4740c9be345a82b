theorem jnIt {m : Nat} (h : m < 2147483648) : (nI m).toInt = (m : Int) := Int32.toInt_ofNat_of_lt h
theorem jnI1 (m : Nat) : nI m + Int32.ofInt 1 = nI (m + 1) := by
  show Int32.ofNat m + Int32.ofInt 1 = Int32.ofNat (m + 1)
  rw [Int32.ofNat_add]; rfl
theorem jFn_sv {h : jH} {lo a k : Nat} {v : Int32} (hk : Nat.blt k 128 = true) (e : jtI.lookup (a * 128 + k) = some v) (F : jFn lo h) : jFn lo (jsi h a k v) := by
  have hk := Nat.blt_eq.mp hk
  refine ⟨F.1, F.2.1, fun q u g w => ?_, trivial, F.2.2.2.2⟩
  by_cases c : q = a * 128 + k
  · subst c
    rw [w] at e
    cases e
    have e1 : (a * 128 + k) / 128 = a := by omega
    have e2 : (a * 128 + k) % 128 = k := by omega
    rw [e1, e2]
    exact iv_eq
  · refine iv_si ?_ (F.2.2.1 q u g w)
    cases c1 : Nat.beq (q / 128) a
    · rfl
    · cases c2 : Nat.beq (q % 128) k
      · rfl
      · have := Nat.eq_of_beq_eq_true c1
        have := Nat.eq_of_beq_eq_true c2
        exact absurd (by omega) c

set_option maxRecDepth 100000 in
theorem pm_image1 {a1 : Int32} {xs : Nat → Int32} {Q : Option Value → jH → Prop} (ha : 0 ≤ a1.toInt ∧ a1.toInt ≤ 3) (kk : ∀ h, jFn 125 h → jOl 7 xs h → jX m_X12_image 100 0 0 54 [(2, .int (nI 50660)), (0, .ref 125), (1, .int a1)] [] h 0 0 Q) : ∀ r m, r + m = 50660 → ∀ h, jFn 125 h → jOl 7 xs h → jX m_X12_image 100 0 0 25 [(2, .int (nI m)), (0, .ref 125), (1, .int a1)] [] h 0 0 Q := by
  intro r
  induction r with
  | zero =>
    intro m hr h F O
    have hm : (nI m).toInt = (m : Int) := jnIt (by omega)
    refine x_iloadn (x := nI m) rfl rfl ?_
    refine x_ldc (v := 50660) rfl z_12_7 ?_
    refine x_icge (tgt := 54) rfl rfl (ti_ge (show (nI m : Int32).toInt = (nI m).toInt from rfl) (show (50660 : Int32).toInt = 50660 by decide) ⟨fun c1 => ?_, fun c1 => ?_⟩)
    ·
      obtain rfl : m = 50660 := by omega
      exact kk _ F O
    ·
      exfalso
      omega
  | succ r ih =>
    intro m hr h F O
    have hm : (nI m).toInt = (m : Int) := jnIt (by omega)
    refine x_iloadn (x := nI m) rfl rfl ?_
    refine x_ldc (v := 50660) rfl z_12_7 ?_
    refine x_icge (tgt := 54) rfl rfl (ti_ge (show (nI m : Int32).toInt = (nI m).toInt from rfl) (show (50660 : Int32).toInt = 50660 by decide) ⟨fun c1 => ?_, fun c1 => ?_⟩)
    ·
      obtain rfl : m = 50660 := by omega
      exact kk _ F O
    ·
      refine x_aloadn (x := 125) rfl rfl ?_
      refine x_getR (b := 127) 12 3 rfl f_12_15 rfl (congrArg Prod.fst (F.1 125 (12, 92) rfl rfl)) (F.2.1 16003 127 rfl rfl) ?_
      refine x_ldc (v := 50660) rfl z_12_7 ?_
      refine x_iloadn (x := a1) rfl rfl ?_
      refine x_imul rfl ?_
      have c2 := jmull (x := 50660) (y := a1) (n := 50660) (by decide) (by omega)
      refine x_iloadn (x := nI m) rfl rfl ?_
      refine x_iadd rfl ?_
      have c3 := jaddf (x := 50660 * a1) (y := nI m) (show (50660 * a1 : Int32).toInt = (50660 * a1).toInt from rfl) (show (nI m : Int32).toInt = (nI m).toInt from rfl) (by omega)
      refine x_aloadn (x := 125) rfl rfl ?_
      refine x_getR (b := 126) 12 2 rfl f_12_8 rfl (congrArg Prod.fst (F.1 125 (12, 92) rfl rfl)) (F.2.1 16002 126 rfl rfl) ?_
      refine x_iloadn (x := nI m) rfl rfl ?_
      refine y_iald (v := (jiv h 126 (nI m).toNatClampNeg)) (N := 50660) (nI m).toNatClampNeg rfl (F.1 126 (100, 50660) rfl rfl) (vpi (by omega)) rfl rfl ?_
      refine y_iast (N := 202640) ((50660 * a1) + (nI m)).toNatClampNeg rfl (F.1 127 (100, 202640) rfl rfl) rfl (vpi (by omega)) rfl ?_
      refine x_iinc (x := nI m) (v := nI m + Int32.ofInt 1) (ls' := [(2, .int (nI m + Int32.ofInt 1)), (0, .ref 125), (1, .int a1)]) rfl rfl rfl rfl rfl ?_
      refine x_goto (tgt := 25) rfl rfl ?_
      rw [jnI1 m]
      exact ih (m + 1) (by omega) _ (jFn_si rfl F) (jOl_si rfl O)
set_option maxRecDepth 100000 in
theorem pm_image2 {a1 : Int32} {xs : Nat → Int32} {Q : Option Value → jH → Prop} (ha : 0 ≤ a1.toInt ∧ a1.toInt ≤ 3) (kk : ∀ h, jFn 125 h → jOl 7 xs h → jX m_X12_image 100 0 0 87 [(2, .int (nI 1600)), (0, .ref 125), (1, .int a1)] [] h 0 0 Q) : ∀ r m, r + m = 1600 → ∀ h, jFn 125 h → jOl 7 xs h → jX m_X12_image 100 0 0 56 [(2, .int (nI m)), (0, .ref 125), (1, .int a1)] [] h 0 0 Q := by
  intro r
  induction r with
  | zero =>
    intro m hr h F O
    have hm : (nI m).toInt = (m : Int) := jnIt (by omega)
    refine x_iloadn (x := nI m) rfl rfl ?_
    refine x_sipush (v := 1600) rfl ks_1600 ?_
    refine x_icge (tgt := 87) rfl rfl (ti_ge (show (nI m : Int32).toInt = (nI m).toInt from rfl) (show (1600 : Int32).toInt = 1600 by decide) ⟨fun c1 => ?_, fun c1 => ?_⟩)
    ·
      obtain rfl : m = 1600 := by omega
      exact kk _ F O
    ·
      exfalso
      omega
  | succ r ih =>
    intro m hr h F O
    have hm : (nI m).toInt = (m : Int) := jnIt (by omega)
    refine x_iloadn (x := nI m) rfl rfl ?_
    refine x_sipush (v := 1600) rfl ks_1600 ?_
    refine x_icge (tgt := 87) rfl rfl (ti_ge (show (nI m : Int32).toInt = (nI m).toInt from rfl) (show (1600 : Int32).toInt = 1600 by decide) ⟨fun c1 => ?_, fun c1 => ?_⟩)
    ·
      obtain rfl : m = 1600 := by omega
      exact kk _ F O
    ·
      refine x_aloadn (x := 125) rfl rfl ?_
      refine x_getR (b := 130) 12 6 rfl f_12_26 rfl (congrArg Prod.fst (F.1 125 (12, 92) rfl rfl)) (F.2.1 16006 130 rfl rfl) ?_
      refine x_sipush (v := 1600) rfl ks_1600 ?_
      refine x_iloadn (x := a1) rfl rfl ?_
      refine x_imul rfl ?_
      have c2 := jmull (x := 1600) (y := a1) (n := 1600) (by decide) (by omega)
      refine x_iloadn (x := nI m) rfl rfl ?_
      refine x_iadd rfl ?_
      have c3 := jaddf (x := 1600 * a1) (y := nI m) (show (1600 * a1 : Int32).toInt = (1600 * a1).toInt from rfl) (show (nI m : Int32).toInt = (nI m).toInt from rfl) (by omega)
      refine x_aloadn (x := 125) rfl rfl ?_
      refine x_getR (b := 129) 12 5 rfl f_12_22 rfl (congrArg Prod.fst (F.1 125 (12, 92) rfl rfl)) (F.2.1 16005 129 rfl rfl) ?_
      refine x_iloadn (x := nI m) rfl rfl ?_
      refine y_lald (v := (jlv h 129 (nI m).toNatClampNeg)) (N := 1600) (nI m).toNatClampNeg rfl (F.1 129 (101, 1600) rfl rfl) (vpi (by omega)) rfl rfl ?_
      refine y_last (N := 6400) ((1600 * a1) + (nI m)).toNatClampNeg rfl (F.1 130 (101, 6400) rfl rfl) rfl (vpi (by omega)) rfl ?_
      refine x_iinc (x := nI m) (v := nI m + Int32.ofInt 1) (ls' := [(2, .int (nI m + Int32.ofInt 1)), (0, .ref 125), (1, .int a1)]) rfl rfl rfl rfl rfl ?_
      refine x_goto (tgt := 56) rfl rfl ?_
      rw [jnI1 m]
      exact ih (m + 1) (by omega) _ (jFn_sl rfl F) (jOl_sl rfl O)
