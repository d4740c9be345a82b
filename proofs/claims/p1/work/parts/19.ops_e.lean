def sp_order (a1 a2 a3 : Int32) : Int32 := (-1)
set_option maxRecDepth 100000 in
set_option maxHeartbeats 40000000 in
theorem px_order (a1 a2 a3 : Int32) {xs : Nat → Int32} {h : jH} {Q : Option Value → jH → Prop} (F : jFb 31 h) (O : jOl 7 xs h) (hQ : ∀ h', jFb 125 h' → jOl 7 xs h' → Q (some (.int (sp_order a1 a2 a3))) h') : jC m_X11_order 100 0 0 [.ref 31, .int a1, .int a2, .int a3] h Q := by
  have FM := jFb_up 125 rfl F
  refine jC.of rfl k_X11_order rfl ?_
  show jX m_X11_order 100 0 0 0 [(0, .ref 31), (1, .int a1), (2, .int a2), (3, .int a3)] [] _ 0 0 _
  refine x_aloadn (x := 31) rfl rfl ?_
  refine x_iloadn (x := a1) rfl rfl ?_
  refine x_iloadn (x := a2) rfl rfl ?_
  refine x_inv (N := m_X11_isKnownLine) (As := [.int a1, .int a2]) (b := 31) (st := []) (d' := 99) (mc := 0) (ms := 0) (host := "") 11 rfl t_X11_isKnownLine ⟨Or.inl q_11_393, i_X11_isKnownLine.1, i_X11_isKnownLine.2⟩ ⟨by decide, rfl⟩ (congrArg Prod.fst (F.1 31 (11, 13) rfl rfl)) rfl (by decide) rfl rfl ⟨by decide, by decide⟩ (jC.of rfl k_X11_isKnownLine rfl ?_)
  show jX m_X11_isKnownLine 99 0 0 0 [(0, .ref 31), (1, .int a1), (2, .int a2)] [] _ 0 0 _
  refine x_iloadn (x := a2) rfl rfl ?_
  refine x_inst (N := m_X11_isDay) (As := [.int a2]) (st := []) (d' := 98) (mc := 0) (ms := 0) (host := "") rfl t_X11_isDay ⟨Or.inl q_11_115, s_X11_isDay⟩ rfl (by decide) rfl rfl ⟨by decide, by decide⟩ (c_X11_isDay (x := a2) ?_)
  show jX m_X11_isKnownLine 99 0 0 4 [(0, .ref 31), (1, .int a1), (2, .int a2)] [.int (jp (0 ≤ a2.toInt ∧ a2.toInt ≤ 146399))] _ 0 0 _
  refine x_ifeq (tgt := 26) rfl rfl (jpe ⟨fun c1 => ?_, fun c1 => ?_⟩)
  ·
    refine x_iconst (v := 0) rfl ki_0 ?_
    refine x_zret rfl rfl (by first | decide | exact jp_01 _) ?_
    show jX m_X11_order 100 0 0 6 [(0, .ref 31), (1, .int a1), (2, .int a2), (3, .int a3)] [.int 0] _ 0 0 _
    refine x_ifeq (tgt := 34) rfl rfl (br_t (by decide) ?_)
    refine x_iconst (v := (-1)) rfl ki_m1 ?_
    refine x_iret rfl rfl ?_
    exact jqe (show sp_order a1 a2 a3 = (-1) by unfold sp_order; (repeat' split) <;> first | rfl | (exfalso; omega)) (hQ _ (by repeat (first | exact FM | refine jFb_si rfl ?_ | refine jFb_sl rfl ?_ | refine jFb_ci rfl ?_ | refine jFb_cl rfl ?_ | refine jFb_sr rfl ?_)) (by repeat (first | exact O | refine jOl_si rfl ?_ | refine jOl_sl rfl ?_ | refine jOl_ci rfl ?_ | refine jOl_cl rfl ?_ | refine jOl_sr rfl ?_)))
  ·
    refine x_aloadn (x := 31) rfl rfl ?_
    refine x_getR (b := 32) 11 0 rfl f_11_10 rfl (congrArg Prod.fst (F.1 31 (11, 13) rfl rfl)) (F.2.1 3968 32 rfl rfl) ?_
    refine x_getR (b := 33) 1 0 rfl f_11_126 rfl (congrArg Prod.fst (F.1 32 (1, 20) rfl rfl)) (F.2.1 4096 33 rfl rfl) ?_
    refine x_iloadn (x := a1) rfl rfl ?_
    refine x_iloadn (x := a2) rfl rfl ?_
    refine x_inv (N := m_X8_isKnown) (As := [.int a1, .int a2]) (b := 33) (st := []) (d' := 98) (mc := 0) (ms := 0) (host := "") 8 rfl t_X8_isKnown ⟨Or.inl q_11_440, i_X8_isKnown.1, i_X8_isKnown.2⟩ ⟨by decide, rfl⟩ (congrArg Prod.fst (F.1 33 (8, 4) rfl rfl)) rfl (by decide) rfl rfl ⟨by decide, by decide⟩ (jC.of rfl k_X8_isKnown rfl ?_)
    show jX m_X8_isKnown 98 0 0 0 [(0, .ref 33), (1, .int a1), (2, .int a2)] [] _ 0 0 _
    refine x_iloadn (x := a1) rfl rfl ?_
    refine x_iflt (tgt := 31) rfl rfl (ti_lt (show (a1 : Int32).toInt = a1.toInt from rfl) (show (0 : Int32).toInt = 0 by decide) ⟨fun c2 => ?_, fun c2 => ?_⟩)
    ·
      refine x_iconst (v := 0) rfl ki_0 ?_
      refine x_zret rfl rfl (by first | decide | exact jp_01 _) ?_
      show jX m_X11_isKnownLine 99 0 0 19 [(0, .ref 31), (1, .int a1), (2, .int a2)] [.int 0] _ 0 0 _
      refine x_ifeq (tgt := 26) rfl rfl (br_t (by decide) ?_)
      refine x_iconst (v := 0) rfl ki_0 ?_
      refine x_zret rfl rfl (by first | decide | exact jp_01 _) ?_
      show jX m_X11_order 100 0 0 6 [(0, .ref 31), (1, .int a1), (2, .int a2), (3, .int a3)] [.int 0] _ 0 0 _
      refine x_ifeq (tgt := 34) rfl rfl (br_t (by decide) ?_)
      refine x_iconst (v := (-1)) rfl ki_m1 ?_
      refine x_iret rfl rfl ?_
      exact jqe (show sp_order a1 a2 a3 = (-1) by unfold sp_order; (repeat' split) <;> first | rfl | (exfalso; omega)) (hQ _ (by repeat (first | exact FM | refine jFb_si rfl ?_ | refine jFb_sl rfl ?_ | refine jFb_ci rfl ?_ | refine jFb_cl rfl ?_ | refine jFb_sr rfl ?_)) (by repeat (first | exact O | refine jOl_si rfl ?_ | refine jOl_sl rfl ?_ | refine jOl_ci rfl ?_ | refine jOl_cl rfl ?_ | refine jOl_sr rfl ?_)))
    ·
      refine x_iloadn (x := a1) rfl rfl ?_
      refine x_aloadn (x := 33) rfl rfl ?_
      refine y_getI (v := 0) 8 3 rfl f_8_7 rfl (congrArg Prod.fst (F.1 33 (8, 4) rfl rfl)) (F.2.2.1 4227 0 rfl rfl) ?_
      refine x_icge (tgt := 31) rfl rfl (ti_ge (show (a1 : Int32).toInt = a1.toInt from rfl) (show (0 : Int32).toInt = 0 by decide) ⟨fun c3 => ?_, fun c3 => ?_⟩)
      ·
        refine x_iconst (v := 0) rfl ki_0 ?_
        refine x_zret rfl rfl (by first | decide | exact jp_01 _) ?_
        show jX m_X11_isKnownLine 99 0 0 19 [(0, .ref 31), (1, .int a1), (2, .int a2)] [.int 0] _ 0 0 _
        refine x_ifeq (tgt := 26) rfl rfl (br_t (by decide) ?_)
        refine x_iconst (v := 0) rfl ki_0 ?_
        refine x_zret rfl rfl (by first | decide | exact jp_01 _) ?_
        show jX m_X11_order 100 0 0 6 [(0, .ref 31), (1, .int a1), (2, .int a2), (3, .int a3)] [.int 0] _ 0 0 _
        refine x_ifeq (tgt := 34) rfl rfl (br_t (by decide) ?_)
        refine x_iconst (v := (-1)) rfl ki_m1 ?_
        refine x_iret rfl rfl ?_
        exact jqe (show sp_order a1 a2 a3 = (-1) by unfold sp_order; (repeat' split) <;> first | rfl | (exfalso; omega)) (hQ _ (by repeat (first | exact FM | refine jFb_si rfl ?_ | refine jFb_sl rfl ?_ | refine jFb_ci rfl ?_ | refine jFb_cl rfl ?_ | refine jFb_sr rfl ?_)) (by repeat (first | exact O | refine jOl_si rfl ?_ | refine jOl_sl rfl ?_ | refine jOl_ci rfl ?_ | refine jOl_cl rfl ?_ | refine jOl_sr rfl ?_)))
      ·
        refine x_aloadn (x := 33) rfl rfl ?_
        refine x_getR (b := 34) 8 2 rfl f_8_25 rfl (congrArg Prod.fst (F.1 33 (8, 4) rfl rfl)) (F.2.1 4226 34 rfl rfl) ?_
        refine x_iloadn (x := a1) rfl rfl ?_
        refine x_aloadn (x := 33) rfl rfl ?_
        refine y_getI (v := 6) 8 0 rfl f_8_19 rfl (congrArg Prod.fst (F.1 33 (8, 4) rfl rfl)) (F.2.2.1 4224 6 rfl rfl) ?_
        refine x_imul rfl ?_
        refine y_iald (v := 0) (N := 1200) (a1 * 6).toNatClampNeg rfl (F.1 34 (100, 1200) rfl rfl) (vpi (by omega)) rfl (F.2.2.2.1 34 rfl rfl _).1 ?_
        refine x_iloadn (x := a2) rfl rfl ?_
        refine x_icgt (tgt := 31) rfl rfl (ti_gt (show (0 : Int32).toInt = 0 by decide) (show (a2 : Int32).toInt = a2.toInt from rfl) ⟨fun c4 => ?_, fun c4 => ?_⟩)
        ·
          refine x_iconst (v := 0) rfl ki_0 ?_
          refine x_zret rfl rfl (by first | decide | exact jp_01 _) ?_
          show jX m_X11_isKnownLine 99 0 0 19 [(0, .ref 31), (1, .int a1), (2, .int a2)] [.int 0] _ 0 0 _
          refine x_ifeq (tgt := 26) rfl rfl (br_t (by decide) ?_)
          refine x_iconst (v := 0) rfl ki_0 ?_
          refine x_zret rfl rfl (by first | decide | exact jp_01 _) ?_
          show jX m_X11_order 100 0 0 6 [(0, .ref 31), (1, .int a1), (2, .int a2), (3, .int a3)] [.int 0] _ 0 0 _
          refine x_ifeq (tgt := 34) rfl rfl (br_t (by decide) ?_)
          refine x_iconst (v := (-1)) rfl ki_m1 ?_
          refine x_iret rfl rfl ?_
          exact jqe (show sp_order a1 a2 a3 = (-1) by unfold sp_order; (repeat' split) <;> first | rfl | (exfalso; omega)) (hQ _ (by repeat (first | exact FM | refine jFb_si rfl ?_ | refine jFb_sl rfl ?_ | refine jFb_ci rfl ?_ | refine jFb_cl rfl ?_ | refine jFb_sr rfl ?_)) (by repeat (first | exact O | refine jOl_si rfl ?_ | refine jOl_sl rfl ?_ | refine jOl_ci rfl ?_ | refine jOl_cl rfl ?_ | refine jOl_sr rfl ?_)))
        ·
          refine x_iconst (v := 1) rfl ki_1 ?_
          refine x_goto (tgt := 32) rfl rfl ?_
          refine x_zret rfl rfl (by first | decide | exact jp_01 _) ?_
          show jX m_X11_isKnownLine 99 0 0 19 [(0, .ref 31), (1, .int a1), (2, .int a2)] [.int 1] _ 0 0 _
          refine x_ifeq (tgt := 26) rfl rfl (br_f (by decide) ?_)
          refine x_iconst (v := 1) rfl ki_1 ?_
          refine x_goto (tgt := 27) rfl rfl ?_
          refine x_zret rfl rfl (by first | decide | exact jp_01 _) ?_
          show jX m_X11_order 100 0 0 6 [(0, .ref 31), (1, .int a1), (2, .int a2), (3, .int a3)] [.int 1] _ 0 0 _
          refine x_ifeq (tgt := 34) rfl rfl (br_f (by decide) ?_)
          refine x_aloadn (x := 31) rfl rfl ?_
          refine x_getR (b := 32) 11 0 rfl f_11_10 rfl (congrArg Prod.fst (F.1 31 (11, 13) rfl rfl)) (F.2.1 3968 32 rfl rfl) ?_
          refine x_getR (b := 33) 1 0 rfl f_11_126 rfl (congrArg Prod.fst (F.1 32 (1, 20) rfl rfl)) (F.2.1 4096 33 rfl rfl) ?_
          refine x_iloadn (x := a1) rfl rfl ?_
          refine x_iconst (v := 2) rfl ki_2 ?_
          refine x_inv (N := m_X8_at) (As := [.int a1, .int 2]) (b := 33) (st := []) (d' := 99) (mc := 0) (ms := 0) (host := "") 8 rfl t_X8_at ⟨Or.inl q_11_171, i_X8_at.1, i_X8_at.2⟩ ⟨by decide, rfl⟩ (congrArg Prod.fst (F.1 33 (8, 4) rfl rfl)) rfl (by decide) rfl rfl ⟨by decide, by decide⟩ (jC.of rfl k_X8_at rfl ?_)
          show jX m_X8_at 99 0 0 0 [(0, .ref 33), (1, .int a1), (2, .int 2)] [] _ 0 0 _
          refine x_iloadn (x := a1) rfl rfl ?_
          refine x_iflt (tgt := 24) rfl rfl (ti_lt (show (a1 : Int32).toInt = a1.toInt from rfl) (show (0 : Int32).toInt = 0 by decide) (br_f c2 ?_))
          refine x_iloadn (x := a1) rfl rfl ?_
          refine x_aloadn (x := 33) rfl rfl ?_
          refine y_getI (v := 0) 8 3 rfl f_8_7 rfl (congrArg Prod.fst (F.1 33 (8, 4) rfl rfl)) (F.2.2.1 4227 0 rfl rfl) ?_
          refine x_icge (tgt := 24) rfl rfl (ti_ge (show (a1 : Int32).toInt = a1.toInt from rfl) (show (0 : Int32).toInt = 0 by decide) (br_f c3 ?_))
          refine x_iloadn (x := 2) rfl rfl ?_
          refine x_iflt (tgt := 24) rfl rfl (br_f (by decide) ?_)
          refine x_iloadn (x := 2) rfl rfl ?_
          refine x_aloadn (x := 33) rfl rfl ?_
          refine y_getI (v := 6) 8 0 rfl f_8_19 rfl (congrArg Prod.fst (F.1 33 (8, 4) rfl rfl)) (F.2.2.1 4224 6 rfl rfl) ?_
          refine x_iclt (tgt := 26) rfl rfl (br_t (by decide) ?_)
          refine x_aloadn (x := 33) rfl rfl ?_
          refine x_getR (b := 34) 8 2 rfl f_8_25 rfl (congrArg Prod.fst (F.1 33 (8, 4) rfl rfl)) (F.2.1 4226 34 rfl rfl) ?_
          refine x_iloadn (x := a1) rfl rfl ?_
          refine x_aloadn (x := 33) rfl rfl ?_
          refine y_getI (v := 6) 8 0 rfl f_8_19 rfl (congrArg Prod.fst (F.1 33 (8, 4) rfl rfl)) (F.2.2.1 4224 6 rfl rfl) ?_
          refine x_imul rfl ?_
          refine x_iloadn (x := 2) rfl rfl ?_
          refine x_iadd rfl ?_
          refine y_iald (v := 0) (N := 1200) ((a1 * 6) + 2).toNatClampNeg rfl (F.1 34 (100, 1200) rfl rfl) (vpi (by omega)) rfl (F.2.2.2.1 34 rfl rfl _).1 ?_
          refine x_iret rfl rfl ?_
          show jX m_X11_order 100 0 0 21 [(0, .ref 31), (1, .int a1), (2, .int a2), (3, .int a3)] [.int 0] _ 0 0 _
          refine x_iconst (v := 5) rfl ki_5 ?_
          refine x_icne (tgt := 34) rfl rfl (bn_t (by decide) ?_)
          refine x_iconst (v := (-1)) rfl ki_m1 ?_
          refine x_iret rfl rfl ?_
          exact jqe (show sp_order a1 a2 a3 = (-1) by unfold sp_order; (repeat' split) <;> first | rfl | (exfalso; omega)) (hQ _ (by repeat (first | exact FM | refine jFb_si rfl ?_ | refine jFb_sl rfl ?_ | refine jFb_ci rfl ?_ | refine jFb_cl rfl ?_ | refine jFb_sr rfl ?_)) (by repeat (first | exact O | refine jOl_si rfl ?_ | refine jOl_sl rfl ?_ | refine jOl_ci rfl ?_ | refine jOl_cl rfl ?_ | refine jOl_sr rfl ?_)))
set_option maxRecDepth 100000 in
set_option maxHeartbeats 40000000 in
theorem pm_order (a1 a2 a3 : Int32) {xs : Nat → Int32} {h : jH} {Q : Option Value → jH → Prop} (F : jFb 125 h) (O : jOl 7 xs h) (hQ : ∀ h', jOl 7 xs h' → Q (some (.int (sp_order a1 a2 a3))) h') : jC m_X12_order 100 0 0 [.ref 125, .int a1, .int a2, .int a3] h Q := by
  refine jC.of rfl k_X12_order rfl ?_
  show jX m_X12_order 100 0 0 0 [(0, .ref 125), (1, .int a1), (2, .int a2), (3, .int a3)] [] _ 0 0 _
  refine x_aloadn (x := 125) rfl rfl ?_
  refine x_iconst (v := 0) rfl ki_0 ?_
  refine x_putI 12 0 rfl f_12_180 rfl (jfin_no TX12 RX12 92 rfl rfl) (congrArg Prod.fst (F.1 125 (12, 92) rfl rfl)) rfl ?_
  refine x_aloadn (x := 125) rfl rfl ?_
  refine x_iloadn (x := a1) rfl rfl ?_
  refine x_inv (N := m_X12_isLine) (As := [.int a1]) (b := 125) (st := []) (d' := 99) (mc := 0) (ms := 0) (host := "") 12 rfl t_X12_isLine ⟨Or.inl q_12_293, i_X12_isLine.1, i_X12_isLine.2⟩ ⟨by decide, rfl⟩ (congrArg Prod.fst (F.1 125 (12, 92) rfl rfl)) rfl (by decide) rfl rfl ⟨by decide, by decide⟩ (jC.of rfl k_X12_isLine rfl ?_)
  show jX m_X12_isLine 99 0 0 0 [(0, .ref 125), (1, .int a1)] [] _ 0 0 _
  refine x_iloadn (x := a1) rfl rfl ?_
  refine x_i2l rfl ?_
  refine x_lconst (v := 0) rfl kl_0 ?_
  refine x_aloadn (x := 125) rfl rfl ?_
  refine x_getR (b := 126) 12 2 rfl f_12_8 rfl (congrArg Prod.fst (F.1 125 (12, 92) rfl rfl)) (F.2.1 16002 126 rfl rfl) ?_
  refine x_iconst (v := 0) rfl ki_0 ?_
  refine y_iald (v := 0) (N := 50660) 0 rfl (F.1 126 (100, 50660) rfl rfl) (jinb_of (by decide)) (by decide) (F.2.2.2.1 126 rfl rfl 0).1 ?_
  refine y_i2l (v := 0) rfl (by decide) ?_
  refine x_lconst (v := 1) rfl kl_1 ?_
  refine y_lsub (v := (-1)) rfl (by decide) ?_
  refine x_inst (N := m_X12_in) (As := [.long (a1.toInt64), .long 0, .long (-1)]) (st := []) (d' := 98) (mc := 0) (ms := 0) (host := "") rfl t_X12_in ⟨Or.inl q_12_188, s_X12_in⟩ rfl (by decide) rfl rfl ⟨by decide, by decide⟩ (c_X12_in (jt_l _) (by decide) (by decide) ?_)
  show jX m_X12_isLine 99 0 0 15 [(0, .ref 125), (1, .int a1)] [.int (jp (0 ≤ a1.toInt ∧ a1.toInt ≤ (-1)))] _ 0 0 _
  refine x_zret rfl rfl (by first | decide | exact jp_01 _) ?_
  show jX m_X12_order 100 0 0 10 [(0, .ref 125), (1, .int a1), (2, .int a2), (3, .int a3)] [.int (jp (0 ≤ a1.toInt ∧ a1.toInt ≤ (-1)))] _ 0 0 _
  refine x_ifeq (tgt := 50) rfl rfl (jpe ⟨fun c1 => ?_, fun c1 => ?_⟩)
  ·
    refine x_iconst (v := (-1)) rfl ki_m1 ?_
    refine x_iret rfl rfl ?_
    exact jqe (show sp_order a1 a2 a3 = (-1) by unfold sp_order; (repeat' split) <;> first | rfl | (exfalso; omega)) (hQ _ (by repeat (first | exact O | refine jOl_si rfl ?_ | refine jOl_sl rfl ?_ | refine jOl_ci rfl ?_ | refine jOl_cl rfl ?_ | refine jOl_sr rfl ?_)))
  ·
    refine x_aloadn (x := 125) rfl rfl ?_
    refine x_iloadn (x := a1) rfl rfl ?_
    refine x_inv (N := m_X12_bookOf) (As := [.int a1]) (b := 125) (st := []) (d' := 99) (mc := 0) (ms := 0) (host := "") 12 rfl t_X12_bookOf ⟨Or.inl q_12_299, i_X12_bookOf.1, i_X12_bookOf.2⟩ ⟨by decide, rfl⟩ (congrArg Prod.fst (F.1 125 (12, 92) rfl rfl)) rfl (by decide) rfl rfl ⟨by decide, by decide⟩ (jC.of rfl k_X12_bookOf rfl ?_)
    show jX m_X12_bookOf 99 0 0 0 [(0, .ref 125), (1, .int a1)] [] _ 0 0 _
    refine x_aloadn (x := 125) rfl rfl ?_
    refine x_getR (b := 126) 12 2 rfl f_12_8 rfl (congrArg Prod.fst (F.1 125 (12, 92) rfl rfl)) (F.2.1 16002 126 rfl rfl) ?_
    refine x_aloadn (x := 125) rfl rfl ?_
    refine x_iloadn (x := a1) rfl rfl ?_
    refine x_inv (N := m_X12_at) (As := [.int a1]) (b := 125) (st := [.ref 126]) (d' := 98) (mc := 0) (ms := 0) (host := "") 12 rfl t_X12_at ⟨Or.inl q_12_254, i_X12_at.1, i_X12_at.2⟩ ⟨by decide, rfl⟩ (congrArg Prod.fst (F.1 125 (12, 92) rfl rfl)) rfl (by decide) rfl rfl ⟨by decide, by decide⟩ (jC.of rfl k_X12_at rfl ?_)
    show jX m_X12_at 98 0 0 0 [(0, .ref 125), (1, .int a1)] [] _ 0 0 _
    refine x_bipush (v := 20) rfl kb_20 ?_
    refine x_bipush (v := 90) rfl kb_90 ?_
    refine x_iloadn (x := a1) rfl rfl ?_
    refine x_imul rfl ?_
    refine x_iadd rfl ?_
    refine x_iret rfl rfl ?_
    show jX m_X12_bookOf 99 0 0 9 [(0, .ref 125), (1, .int a1)] [.int (20 + (90 * a1)), .ref 126] _ 0 0 _
    refine y_iald (v := 0) (N := 50660) (20 + (90 * a1)).toNatClampNeg rfl (F.1 126 (100, 50660) rfl rfl) (vpi (by omega)) rfl (F.2.2.2.1 126 rfl rfl _).1 ?_
    refine x_iret rfl rfl ?_
    show jX m_X12_order 100 0 0 18 [(0, .ref 125), (1, .int a1), (2, .int a2), (3, .int a3)] [.int 0] _ 0 0 _
    refine x_iconst (v := 5) rfl ki_5 ?_
    refine x_icne (tgt := 50) rfl rfl (bn_t (by decide) ?_)
    refine x_iconst (v := (-1)) rfl ki_m1 ?_
    refine x_iret rfl rfl ?_
    exact jqe (show sp_order a1 a2 a3 = (-1) by unfold sp_order; (repeat' split) <;> first | rfl | (exfalso; omega)) (hQ _ (by repeat (first | exact O | refine jOl_si rfl ?_ | refine jOl_sl rfl ?_ | refine jOl_ci rfl ?_ | refine jOl_cl rfl ?_ | refine jOl_sr rfl ?_)))
def sp_appeal (a1 a2 a3 : Int32) : Int32 := if (0 ≤ a2.toInt ∧ a2.toInt ≤ 146399) ∧ (0 ≤ a3.toInt ∧ a3.toInt ≤ 146399) then (-2) else (-1)
set_option maxRecDepth 100000 in
set_option maxHeartbeats 40000000 in
theorem px_appeal (a1 a2 a3 : Int32) {xs : Nat → Int32} {h : jH} {Q : Option Value → jH → Prop} (F : jFb 31 h) (O : jOl 7 xs h) (hQ : ∀ h', jFb 125 h' → jOl 7 xs h' → Q (some (.int (sp_appeal a1 a2 a3))) h') : jC m_X11_appeal 100 0 0 [.ref 31, .int a1, .int a2, .int a3] h Q := by
  have FM := jFb_up 125 rfl F
  refine jC.of rfl k_X11_appeal rfl ?_
  show jX m_X11_appeal 100 0 0 0 [(0, .ref 31), (1, .int a1), (2, .int a2), (3, .int a3)] [] _ 0 0 _
  refine x_iloadn (x := a2) rfl rfl ?_
  refine x_inst (N := m_X11_isDay) (As := [.int a2]) (st := []) (d' := 99) (mc := 0) (ms := 0) (host := "") rfl t_X11_isDay ⟨Or.inl q_11_115, s_X11_isDay⟩ rfl (by decide) rfl rfl ⟨by decide, by decide⟩ (c_X11_isDay (x := a2) ?_)
  show jX m_X11_appeal 100 0 0 4 [(0, .ref 31), (1, .int a1), (2, .int a2), (3, .int a3)] [.int (jp (0 ≤ a2.toInt ∧ a2.toInt ≤ 146399))] _ 0 0 _
  refine x_ifeq (tgt := 14) rfl rfl (jpe ⟨fun c1 => ?_, fun c1 => ?_⟩)
  ·
    refine x_aloadn (x := 31) rfl rfl ?_
    refine x_iconst (v := (-1)) rfl ki_m1 ?_
    refine x_inv (N := m_X11_refuse) (As := [.int (-1)]) (b := 31) (st := []) (d' := 99) (mc := 0) (ms := 0) (host := "") 11 rfl t_X11_refuse ⟨Or.inl q_11_206, i_X11_refuse.1, i_X11_refuse.2⟩ ⟨by decide, rfl⟩ (congrArg Prod.fst (F.1 31 (11, 13) rfl rfl)) rfl (by decide) rfl rfl ⟨by decide, by decide⟩ (jC.of rfl k_X11_refuse rfl ?_)
    show jX m_X11_refuse 99 0 0 0 [(0, .ref 31), (1, .int (-1))] [] _ 0 0 _
    refine x_aloadn (x := 31) rfl rfl ?_
    refine x_iloadn (x := (-1)) rfl rfl ?_
    refine x_putI 11 12 rfl f_11_94 rfl (jfin_no TX11 RX11 13 rfl rfl) (congrArg Prod.fst (F.1 31 (11, 13) rfl rfl)) rfl ?_
    refine x_iloadn (x := (-1)) rfl rfl ?_
    refine x_iret rfl rfl ?_
    show jX m_X11_appeal 100 0 0 19 [(0, .ref 31), (1, .int a1), (2, .int a2), (3, .int a3)] [.int (-1)] _ 0 0 _
    refine x_iret rfl rfl ?_
    exact jqe (show sp_appeal a1 a2 a3 = (-1) by unfold sp_appeal; (repeat' split) <;> first | rfl | (exfalso; omega)) (hQ _ (by repeat (first | exact FM | refine jFb_si rfl ?_ | refine jFb_sl rfl ?_ | refine jFb_ci rfl ?_ | refine jFb_cl rfl ?_ | refine jFb_sr rfl ?_)) (by repeat (first | exact O | refine jOl_si rfl ?_ | refine jOl_sl rfl ?_ | refine jOl_ci rfl ?_ | refine jOl_cl rfl ?_ | refine jOl_sr rfl ?_)))
  ·
    refine x_iloadn (x := a3) rfl rfl ?_
    refine x_inst (N := m_X11_isDay) (As := [.int a3]) (st := []) (d' := 99) (mc := 0) (ms := 0) (host := "") rfl t_X11_isDay ⟨Or.inl q_11_115, s_X11_isDay⟩ rfl (by decide) rfl rfl ⟨by decide, by decide⟩ (c_X11_isDay (x := a3) ?_)
    show jX m_X11_appeal 100 0 0 11 [(0, .ref 31), (1, .int a1), (2, .int a2), (3, .int a3)] [.int (jp (0 ≤ a3.toInt ∧ a3.toInt ≤ 146399))] _ 0 0 _
    refine x_ifne (tgt := 20) rfl rfl (jpn ⟨fun c2 => ?_, fun c2 => ?_⟩)
    ·
      refine x_aloadn (x := 31) rfl rfl ?_
      refine x_iloadn (x := a1) rfl rfl ?_
      refine x_inv (N := m_X11_isLine) (As := [.int a1]) (b := 31) (st := []) (d' := 99) (mc := 0) (ms := 0) (host := "") 11 rfl t_X11_isLine ⟨Or.inl q_11_168, i_X11_isLine.1, i_X11_isLine.2⟩ ⟨by decide, rfl⟩ (congrArg Prod.fst (F.1 31 (11, 13) rfl rfl)) rfl (by decide) rfl rfl ⟨by decide, by decide⟩ (jC.of rfl k_X11_isLine rfl ?_)
      show jX m_X11_isLine 99 0 0 0 [(0, .ref 31), (1, .int a1)] [] _ 0 0 _
      refine x_iloadn (x := a1) rfl rfl ?_
      refine x_iflt (tgt := 22) rfl rfl (ti_lt (show (a1 : Int32).toInt = a1.toInt from rfl) (show (0 : Int32).toInt = 0 by decide) ⟨fun c3 => ?_, fun c3 => ?_⟩)
      ·
        refine x_iconst (v := 0) rfl ki_0 ?_
        refine x_zret rfl rfl (by first | decide | exact jp_01 _) ?_
        show jX m_X11_appeal 100 0 0 25 [(0, .ref 31), (1, .int a1), (2, .int a2), (3, .int a3)] [.int 0] _ 0 0 _
        refine x_ifeq (tgt := 44) rfl rfl (br_t (by decide) ?_)
        refine x_aloadn (x := 31) rfl rfl ?_
        refine x_bipush (v := (-2)) rfl kb_m2 ?_
        refine x_inv (N := m_X11_refuse) (As := [.int (-2)]) (b := 31) (st := []) (d' := 99) (mc := 0) (ms := 0) (host := "") 11 rfl t_X11_refuse ⟨Or.inl q_11_206, i_X11_refuse.1, i_X11_refuse.2⟩ ⟨by decide, rfl⟩ (congrArg Prod.fst (F.1 31 (11, 13) rfl rfl)) rfl (by decide) rfl rfl ⟨by decide, by decide⟩ (jC.of rfl k_X11_refuse rfl ?_)
        show jX m_X11_refuse 99 0 0 0 [(0, .ref 31), (1, .int (-2))] [] _ 0 0 _
        refine x_aloadn (x := 31) rfl rfl ?_
        refine x_iloadn (x := (-2)) rfl rfl ?_
        refine x_putI 11 12 rfl f_11_94 rfl (jfin_no TX11 RX11 13 rfl rfl) (congrArg Prod.fst (F.1 31 (11, 13) rfl rfl)) rfl ?_
        refine x_iloadn (x := (-2)) rfl rfl ?_
        refine x_iret rfl rfl ?_
        show jX m_X11_appeal 100 0 0 50 [(0, .ref 31), (1, .int a1), (2, .int a2), (3, .int a3)] [.int (-2)] _ 0 0 _
        refine x_iret rfl rfl ?_
        exact jqe (show sp_appeal a1 a2 a3 = (-2) by unfold sp_appeal; (repeat' split) <;> first | rfl | (exfalso; omega)) (hQ _ (by repeat (first | exact FM | refine jFb_si rfl ?_ | refine jFb_sl rfl ?_ | refine jFb_ci rfl ?_ | refine jFb_cl rfl ?_ | refine jFb_sr rfl ?_)) (by repeat (first | exact O | refine jOl_si rfl ?_ | refine jOl_sl rfl ?_ | refine jOl_ci rfl ?_ | refine jOl_cl rfl ?_ | refine jOl_sr rfl ?_)))
      ·
        refine x_iloadn (x := a1) rfl rfl ?_
        refine x_aloadn (x := 31) rfl rfl ?_
        refine x_getR (b := 32) 11 0 rfl f_11_10 rfl (congrArg Prod.fst (F.1 31 (11, 13) rfl rfl)) (F.2.1 3968 32 rfl rfl) ?_
        refine x_getR (b := 33) 1 0 rfl f_11_126 rfl (congrArg Prod.fst (F.1 32 (1, 20) rfl rfl)) (F.2.1 4096 33 rfl rfl) ?_
        refine y_getI (v := 0) 8 3 rfl f_11_142 rfl (congrArg Prod.fst (F.1 33 (8, 4) rfl rfl)) (F.2.2.1 4227 0 rfl rfl) ?_
        refine x_icge (tgt := 22) rfl rfl (ti_ge (show (a1 : Int32).toInt = a1.toInt from rfl) (show (0 : Int32).toInt = 0 by decide) ⟨fun c4 => ?_, fun c4 => ?_⟩)
        ·
          refine x_iconst (v := 0) rfl ki_0 ?_
          refine x_zret rfl rfl (by first | decide | exact jp_01 _) ?_
          show jX m_X11_appeal 100 0 0 25 [(0, .ref 31), (1, .int a1), (2, .int a2), (3, .int a3)] [.int 0] _ 0 0 _
          refine x_ifeq (tgt := 44) rfl rfl (br_t (by decide) ?_)
          refine x_aloadn (x := 31) rfl rfl ?_
          refine x_bipush (v := (-2)) rfl kb_m2 ?_
          refine x_inv (N := m_X11_refuse) (As := [.int (-2)]) (b := 31) (st := []) (d' := 99) (mc := 0) (ms := 0) (host := "") 11 rfl t_X11_refuse ⟨Or.inl q_11_206, i_X11_refuse.1, i_X11_refuse.2⟩ ⟨by decide, rfl⟩ (congrArg Prod.fst (F.1 31 (11, 13) rfl rfl)) rfl (by decide) rfl rfl ⟨by decide, by decide⟩ (jC.of rfl k_X11_refuse rfl ?_)
          show jX m_X11_refuse 99 0 0 0 [(0, .ref 31), (1, .int (-2))] [] _ 0 0 _
          refine x_aloadn (x := 31) rfl rfl ?_
          refine x_iloadn (x := (-2)) rfl rfl ?_
          refine x_putI 11 12 rfl f_11_94 rfl (jfin_no TX11 RX11 13 rfl rfl) (congrArg Prod.fst (F.1 31 (11, 13) rfl rfl)) rfl ?_
          refine x_iloadn (x := (-2)) rfl rfl ?_
          refine x_iret rfl rfl ?_
          show jX m_X11_appeal 100 0 0 50 [(0, .ref 31), (1, .int a1), (2, .int a2), (3, .int a3)] [.int (-2)] _ 0 0 _
          refine x_iret rfl rfl ?_
          exact jqe (show sp_appeal a1 a2 a3 = (-2) by unfold sp_appeal; (repeat' split) <;> first | rfl | (exfalso; omega)) (hQ _ (by repeat (first | exact FM | refine jFb_si rfl ?_ | refine jFb_sl rfl ?_ | refine jFb_ci rfl ?_ | refine jFb_cl rfl ?_ | refine jFb_sr rfl ?_)) (by repeat (first | exact O | refine jOl_si rfl ?_ | refine jOl_sl rfl ?_ | refine jOl_ci rfl ?_ | refine jOl_cl rfl ?_ | refine jOl_sr rfl ?_)))
        ·
          refine x_iconst (v := 1) rfl ki_1 ?_
          refine x_goto (tgt := 23) rfl rfl ?_
          refine x_zret rfl rfl (by first | decide | exact jp_01 _) ?_
          show jX m_X11_appeal 100 0 0 25 [(0, .ref 31), (1, .int a1), (2, .int a2), (3, .int a3)] [.int 1] _ 0 0 _
          refine x_ifeq (tgt := 44) rfl rfl (br_f (by decide) ?_)
          refine x_aloadn (x := 31) rfl rfl ?_
          refine x_getR (b := 32) 11 0 rfl f_11_10 rfl (congrArg Prod.fst (F.1 31 (11, 13) rfl rfl)) (F.2.1 3968 32 rfl rfl) ?_
          refine x_getR (b := 33) 1 0 rfl f_11_126 rfl (congrArg Prod.fst (F.1 32 (1, 20) rfl rfl)) (F.2.1 4096 33 rfl rfl) ?_
          refine x_iloadn (x := a1) rfl rfl ?_
          refine x_iconst (v := 2) rfl ki_2 ?_
          refine x_inv (N := m_X8_at) (As := [.int a1, .int 2]) (b := 33) (st := []) (d' := 99) (mc := 0) (ms := 0) (host := "") 8 rfl t_X8_at ⟨Or.inl q_11_171, i_X8_at.1, i_X8_at.2⟩ ⟨by decide, rfl⟩ (congrArg Prod.fst (F.1 33 (8, 4) rfl rfl)) rfl (by decide) rfl rfl ⟨by decide, by decide⟩ (jC.of rfl k_X8_at rfl ?_)
          show jX m_X8_at 99 0 0 0 [(0, .ref 33), (1, .int a1), (2, .int 2)] [] _ 0 0 _
          refine x_iloadn (x := a1) rfl rfl ?_
          refine x_iflt (tgt := 24) rfl rfl (ti_lt (show (a1 : Int32).toInt = a1.toInt from rfl) (show (0 : Int32).toInt = 0 by decide) (br_f c3 ?_))
          refine x_iloadn (x := a1) rfl rfl ?_
          refine x_aloadn (x := 33) rfl rfl ?_
          refine y_getI (v := 0) 8 3 rfl f_8_7 rfl (congrArg Prod.fst (F.1 33 (8, 4) rfl rfl)) (F.2.2.1 4227 0 rfl rfl) ?_
          refine x_icge (tgt := 24) rfl rfl (ti_ge (show (a1 : Int32).toInt = a1.toInt from rfl) (show (0 : Int32).toInt = 0 by decide) (br_f c4 ?_))
          refine x_iloadn (x := 2) rfl rfl ?_
          refine x_iflt (tgt := 24) rfl rfl (br_f (by decide) ?_)
          refine x_iloadn (x := 2) rfl rfl ?_
          refine x_aloadn (x := 33) rfl rfl ?_
          refine y_getI (v := 6) 8 0 rfl f_8_19 rfl (congrArg Prod.fst (F.1 33 (8, 4) rfl rfl)) (F.2.2.1 4224 6 rfl rfl) ?_
          refine x_iclt (tgt := 26) rfl rfl (br_t (by decide) ?_)
          refine x_aloadn (x := 33) rfl rfl ?_
          refine x_getR (b := 34) 8 2 rfl f_8_25 rfl (congrArg Prod.fst (F.1 33 (8, 4) rfl rfl)) (F.2.1 4226 34 rfl rfl) ?_
          refine x_iloadn (x := a1) rfl rfl ?_
          refine x_aloadn (x := 33) rfl rfl ?_
          refine y_getI (v := 6) 8 0 rfl f_8_19 rfl (congrArg Prod.fst (F.1 33 (8, 4) rfl rfl)) (F.2.2.1 4224 6 rfl rfl) ?_
          refine x_imul rfl ?_
          refine x_iloadn (x := 2) rfl rfl ?_
          refine x_iadd rfl ?_
          refine y_iald (v := 0) (N := 1200) ((a1 * 6) + 2).toNatClampNeg rfl (F.1 34 (100, 1200) rfl rfl) (vpi (by omega)) rfl (F.2.2.2.1 34 rfl rfl _).1 ?_
          refine x_iret rfl rfl ?_
          show jX m_X11_appeal 100 0 0 40 [(0, .ref 31), (1, .int a1), (2, .int a2), (3, .int a3)] [.int 0] _ 0 0 _
          refine x_iconst (v := 5) rfl ki_5 ?_
          refine x_iceq (tgt := 51) rfl rfl (br_f (by decide) ?_)
          refine x_aloadn (x := 31) rfl rfl ?_
          refine x_bipush (v := (-2)) rfl kb_m2 ?_
          refine x_inv (N := m_X11_refuse) (As := [.int (-2)]) (b := 31) (st := []) (d' := 99) (mc := 0) (ms := 0) (host := "") 11 rfl t_X11_refuse ⟨Or.inl q_11_206, i_X11_refuse.1, i_X11_refuse.2⟩ ⟨by decide, rfl⟩ (congrArg Prod.fst (F.1 31 (11, 13) rfl rfl)) rfl (by decide) rfl rfl ⟨by decide, by decide⟩ (jC.of rfl k_X11_refuse rfl ?_)
          show jX m_X11_refuse 99 0 0 0 [(0, .ref 31), (1, .int (-2))] [] _ 0 0 _
          refine x_aloadn (x := 31) rfl rfl ?_
          refine x_iloadn (x := (-2)) rfl rfl ?_
          refine x_putI 11 12 rfl f_11_94 rfl (jfin_no TX11 RX11 13 rfl rfl) (congrArg Prod.fst (F.1 31 (11, 13) rfl rfl)) rfl ?_
          refine x_iloadn (x := (-2)) rfl rfl ?_
          refine x_iret rfl rfl ?_
          show jX m_X11_appeal 100 0 0 50 [(0, .ref 31), (1, .int a1), (2, .int a2), (3, .int a3)] [.int (-2)] _ 0 0 _
          refine x_iret rfl rfl ?_
          exact jqe (show sp_appeal a1 a2 a3 = (-2) by unfold sp_appeal; (repeat' split) <;> first | rfl | (exfalso; omega)) (hQ _ (by repeat (first | exact FM | refine jFb_si rfl ?_ | refine jFb_sl rfl ?_ | refine jFb_ci rfl ?_ | refine jFb_cl rfl ?_ | refine jFb_sr rfl ?_)) (by repeat (first | exact O | refine jOl_si rfl ?_ | refine jOl_sl rfl ?_ | refine jOl_ci rfl ?_ | refine jOl_cl rfl ?_ | refine jOl_sr rfl ?_)))
    ·
      refine x_aloadn (x := 31) rfl rfl ?_
      refine x_iconst (v := (-1)) rfl ki_m1 ?_
      refine x_inv (N := m_X11_refuse) (As := [.int (-1)]) (b := 31) (st := []) (d' := 99) (mc := 0) (ms := 0) (host := "") 11 rfl t_X11_refuse ⟨Or.inl q_11_206, i_X11_refuse.1, i_X11_refuse.2⟩ ⟨by decide, rfl⟩ (congrArg Prod.fst (F.1 31 (11, 13) rfl rfl)) rfl (by decide) rfl rfl ⟨by decide, by decide⟩ (jC.of rfl k_X11_refuse rfl ?_)
      show jX m_X11_refuse 99 0 0 0 [(0, .ref 31), (1, .int (-1))] [] _ 0 0 _
      refine x_aloadn (x := 31) rfl rfl ?_
      refine x_iloadn (x := (-1)) rfl rfl ?_
      refine x_putI 11 12 rfl f_11_94 rfl (jfin_no TX11 RX11 13 rfl rfl) (congrArg Prod.fst (F.1 31 (11, 13) rfl rfl)) rfl ?_
      refine x_iloadn (x := (-1)) rfl rfl ?_
      refine x_iret rfl rfl ?_
      show jX m_X11_appeal 100 0 0 19 [(0, .ref 31), (1, .int a1), (2, .int a2), (3, .int a3)] [.int (-1)] _ 0 0 _
      refine x_iret rfl rfl ?_
      exact jqe (show sp_appeal a1 a2 a3 = (-1) by unfold sp_appeal; (repeat' split) <;> first | rfl | (exfalso; omega)) (hQ _ (by repeat (first | exact FM | refine jFb_si rfl ?_ | refine jFb_sl rfl ?_ | refine jFb_ci rfl ?_ | refine jFb_cl rfl ?_ | refine jFb_sr rfl ?_)) (by repeat (first | exact O | refine jOl_si rfl ?_ | refine jOl_sl rfl ?_ | refine jOl_ci rfl ?_ | refine jOl_cl rfl ?_ | refine jOl_sr rfl ?_)))
set_option maxRecDepth 100000 in
set_option maxHeartbeats 40000000 in
theorem pm_appeal (a1 a2 a3 : Int32) {xs : Nat → Int32} {h : jH} {Q : Option Value → jH → Prop} (F : jFb 125 h) (O : jOl 7 xs h) (hQ : ∀ h', jOl 7 xs h' → Q (some (.int (sp_appeal a1 a2 a3))) h') : jC m_X12_appeal 100 0 0 [.ref 125, .int a1, .int a2, .int a3] h Q := by
  refine jC.of rfl k_X12_appeal rfl ?_
  show jX m_X12_appeal 100 0 0 0 [(0, .ref 125), (1, .int a1), (2, .int a2), (3, .int a3)] [] _ 0 0 _
  refine x_aloadn (x := 125) rfl rfl ?_
  refine x_iconst (v := 0) rfl ki_0 ?_
  refine x_putI 12 0 rfl f_12_180 rfl (jfin_no TX12 RX12 92 rfl rfl) (congrArg Prod.fst (F.1 125 (12, 92) rfl rfl)) rfl ?_
  refine x_iloadn (x := a2) rfl rfl ?_
  refine x_inst (N := m_X12_isDay) (As := [.int a2]) (st := []) (d' := 99) (mc := 0) (ms := 0) (host := "") rfl t_X12_isDay ⟨Or.inl q_12_273, s_X12_isDay⟩ rfl (by decide) rfl rfl ⟨by decide, by decide⟩ (c_X12_isDay (x := a2) ?_)
  show jX m_X12_appeal 100 0 0 9 [(0, .ref 125), (1, .int a1), (2, .int a2), (3, .int a3)] [.int (jp (0 ≤ a2.toInt ∧ a2.toInt ≤ 146399))] _ 0 0 _
  refine x_ifeq (tgt := 19) rfl rfl (jpe ⟨fun c1 => ?_, fun c1 => ?_⟩)
  ·
    refine x_aloadn (x := 125) rfl rfl ?_
    refine x_iconst (v := (-1)) rfl ki_m1 ?_
    refine x_inv (N := m_X12_told) (As := [.int (-1)]) (b := 125) (st := []) (d' := 99) (mc := 0) (ms := 0) (host := "") 12 rfl t_X12_told ⟨Or.inl q_12_197, i_X12_told.1, i_X12_told.2⟩ ⟨by decide, rfl⟩ (congrArg Prod.fst (F.1 125 (12, 92) rfl rfl)) rfl (by decide) rfl rfl ⟨by decide, by decide⟩ (jC.of rfl k_X12_told rfl ?_)
    show jX m_X12_told 99 0 0 0 [(0, .ref 125), (1, .int (-1))] [] _ 0 0 _
    refine x_aloadn (x := 125) rfl rfl ?_
    refine x_iloadn (x := (-1)) rfl rfl ?_
    refine x_ifge (tgt := 9) rfl rfl (br_f (by decide) ?_)
    refine x_iloadn (x := (-1)) rfl rfl ?_
    refine x_goto (tgt := 10) rfl rfl ?_
    refine x_putI 12 1 rfl f_12_183 rfl (jfin_no TX12 RX12 92 rfl rfl) (congrArg Prod.fst (F.1 125 (12, 92) rfl rfl)) rfl ?_
    refine x_iloadn (x := (-1)) rfl rfl ?_
    refine x_iret rfl rfl ?_
    show jX m_X12_appeal 100 0 0 24 [(0, .ref 125), (1, .int a1), (2, .int a2), (3, .int a3)] [.int (-1)] _ 0 0 _
    refine x_iret rfl rfl ?_
    exact jqe (show sp_appeal a1 a2 a3 = (-1) by unfold sp_appeal; (repeat' split) <;> first | rfl | (exfalso; omega)) (hQ _ (by repeat (first | exact O | refine jOl_si rfl ?_ | refine jOl_sl rfl ?_ | refine jOl_ci rfl ?_ | refine jOl_cl rfl ?_ | refine jOl_sr rfl ?_)))
  ·
    refine x_iloadn (x := a3) rfl rfl ?_
    refine x_inst (N := m_X12_isDay) (As := [.int a3]) (st := []) (d' := 99) (mc := 0) (ms := 0) (host := "") rfl t_X12_isDay ⟨Or.inl q_12_273, s_X12_isDay⟩ rfl (by decide) rfl rfl ⟨by decide, by decide⟩ (c_X12_isDay (x := a3) ?_)
    show jX m_X12_appeal 100 0 0 16 [(0, .ref 125), (1, .int a1), (2, .int a2), (3, .int a3)] [.int (jp (0 ≤ a3.toInt ∧ a3.toInt ≤ 146399))] _ 0 0 _
    refine x_ifne (tgt := 25) rfl rfl (jpn ⟨fun c2 => ?_, fun c2 => ?_⟩)
    ·
      refine x_aloadn (x := 125) rfl rfl ?_
      refine x_iloadn (x := a1) rfl rfl ?_
      refine x_inv (N := m_X12_isLine) (As := [.int a1]) (b := 125) (st := []) (d' := 99) (mc := 0) (ms := 0) (host := "") 12 rfl t_X12_isLine ⟨Or.inl q_12_293, i_X12_isLine.1, i_X12_isLine.2⟩ ⟨by decide, rfl⟩ (congrArg Prod.fst (F.1 125 (12, 92) rfl rfl)) rfl (by decide) rfl rfl ⟨by decide, by decide⟩ (jC.of rfl k_X12_isLine rfl ?_)
      show jX m_X12_isLine 99 0 0 0 [(0, .ref 125), (1, .int a1)] [] _ 0 0 _
      refine x_iloadn (x := a1) rfl rfl ?_
      refine x_i2l rfl ?_
      refine x_lconst (v := 0) rfl kl_0 ?_
      refine x_aloadn (x := 125) rfl rfl ?_
      refine x_getR (b := 126) 12 2 rfl f_12_8 rfl (congrArg Prod.fst (F.1 125 (12, 92) rfl rfl)) (F.2.1 16002 126 rfl rfl) ?_
      refine x_iconst (v := 0) rfl ki_0 ?_
      refine y_iald (v := 0) (N := 50660) 0 rfl (F.1 126 (100, 50660) rfl rfl) (jinb_of (by decide)) (by decide) (F.2.2.2.1 126 rfl rfl 0).1 ?_
      refine y_i2l (v := 0) rfl (by decide) ?_
      refine x_lconst (v := 1) rfl kl_1 ?_
      refine y_lsub (v := (-1)) rfl (by decide) ?_
      refine x_inst (N := m_X12_in) (As := [.long (a1.toInt64), .long 0, .long (-1)]) (st := []) (d' := 98) (mc := 0) (ms := 0) (host := "") rfl t_X12_in ⟨Or.inl q_12_188, s_X12_in⟩ rfl (by decide) rfl rfl ⟨by decide, by decide⟩ (c_X12_in (jt_l _) (by decide) (by decide) ?_)
      show jX m_X12_isLine 99 0 0 15 [(0, .ref 125), (1, .int a1)] [.int (jp (0 ≤ a1.toInt ∧ a1.toInt ≤ (-1)))] _ 0 0 _
      refine x_zret rfl rfl (by first | decide | exact jp_01 _) ?_
      show jX m_X12_appeal 100 0 0 30 [(0, .ref 125), (1, .int a1), (2, .int a2), (3, .int a3)] [.int (jp (0 ≤ a1.toInt ∧ a1.toInt ≤ (-1)))] _ 0 0 _
      refine x_ifeq (tgt := 42) rfl rfl (jpe ⟨fun c3 => ?_, fun c3 => ?_⟩)
      ·
        refine x_aloadn (x := 125) rfl rfl ?_
        refine x_bipush (v := (-2)) rfl kb_m2 ?_
        refine x_inv (N := m_X12_told) (As := [.int (-2)]) (b := 125) (st := []) (d' := 99) (mc := 0) (ms := 0) (host := "") 12 rfl t_X12_told ⟨Or.inl q_12_197, i_X12_told.1, i_X12_told.2⟩ ⟨by decide, rfl⟩ (congrArg Prod.fst (F.1 125 (12, 92) rfl rfl)) rfl (by decide) rfl rfl ⟨by decide, by decide⟩ (jC.of rfl k_X12_told rfl ?_)
        show jX m_X12_told 99 0 0 0 [(0, .ref 125), (1, .int (-2))] [] _ 0 0 _
        refine x_aloadn (x := 125) rfl rfl ?_
        refine x_iloadn (x := (-2)) rfl rfl ?_
        refine x_ifge (tgt := 9) rfl rfl (br_f (by decide) ?_)
        refine x_iloadn (x := (-2)) rfl rfl ?_
        refine x_goto (tgt := 10) rfl rfl ?_
        refine x_putI 12 1 rfl f_12_183 rfl (jfin_no TX12 RX12 92 rfl rfl) (congrArg Prod.fst (F.1 125 (12, 92) rfl rfl)) rfl ?_
        refine x_iloadn (x := (-2)) rfl rfl ?_
        refine x_iret rfl rfl ?_
        show jX m_X12_appeal 100 0 0 48 [(0, .ref 125), (1, .int a1), (2, .int a2), (3, .int a3)] [.int (-2)] _ 0 0 _
        refine x_iret rfl rfl ?_
        exact jqe (show sp_appeal a1 a2 a3 = (-2) by unfold sp_appeal; (repeat' split) <;> first | rfl | (exfalso; omega)) (hQ _ (by repeat (first | exact O | refine jOl_si rfl ?_ | refine jOl_sl rfl ?_ | refine jOl_ci rfl ?_ | refine jOl_cl rfl ?_ | refine jOl_sr rfl ?_)))
      ·
        refine x_aloadn (x := 125) rfl rfl ?_
        refine x_iloadn (x := a1) rfl rfl ?_
        refine x_inv (N := m_X12_bookOf) (As := [.int a1]) (b := 125) (st := []) (d' := 99) (mc := 0) (ms := 0) (host := "") 12 rfl t_X12_bookOf ⟨Or.inl q_12_299, i_X12_bookOf.1, i_X12_bookOf.2⟩ ⟨by decide, rfl⟩ (congrArg Prod.fst (F.1 125 (12, 92) rfl rfl)) rfl (by decide) rfl rfl ⟨by decide, by decide⟩ (jC.of rfl k_X12_bookOf rfl ?_)
        show jX m_X12_bookOf 99 0 0 0 [(0, .ref 125), (1, .int a1)] [] _ 0 0 _
        refine x_aloadn (x := 125) rfl rfl ?_
        refine x_getR (b := 126) 12 2 rfl f_12_8 rfl (congrArg Prod.fst (F.1 125 (12, 92) rfl rfl)) (F.2.1 16002 126 rfl rfl) ?_
        refine x_aloadn (x := 125) rfl rfl ?_
        refine x_iloadn (x := a1) rfl rfl ?_
        refine x_inv (N := m_X12_at) (As := [.int a1]) (b := 125) (st := [.ref 126]) (d' := 98) (mc := 0) (ms := 0) (host := "") 12 rfl t_X12_at ⟨Or.inl q_12_254, i_X12_at.1, i_X12_at.2⟩ ⟨by decide, rfl⟩ (congrArg Prod.fst (F.1 125 (12, 92) rfl rfl)) rfl (by decide) rfl rfl ⟨by decide, by decide⟩ (jC.of rfl k_X12_at rfl ?_)
        show jX m_X12_at 98 0 0 0 [(0, .ref 125), (1, .int a1)] [] _ 0 0 _
        refine x_bipush (v := 20) rfl kb_20 ?_
        refine x_bipush (v := 90) rfl kb_90 ?_
        refine x_iloadn (x := a1) rfl rfl ?_
        refine x_imul rfl ?_
        refine x_iadd rfl ?_
        refine x_iret rfl rfl ?_
        show jX m_X12_bookOf 99 0 0 9 [(0, .ref 125), (1, .int a1)] [.int (20 + (90 * a1)), .ref 126] _ 0 0 _
        refine y_iald (v := 0) (N := 50660) (20 + (90 * a1)).toNatClampNeg rfl (F.1 126 (100, 50660) rfl rfl) (vpi (by omega)) rfl (F.2.2.2.1 126 rfl rfl _).1 ?_
        refine x_iret rfl rfl ?_
        show jX m_X12_appeal 100 0 0 38 [(0, .ref 125), (1, .int a1), (2, .int a2), (3, .int a3)] [.int 0] _ 0 0 _
        refine x_iconst (v := 5) rfl ki_5 ?_
        refine x_iceq (tgt := 49) rfl rfl (br_f (by decide) ?_)
        refine x_aloadn (x := 125) rfl rfl ?_
        refine x_bipush (v := (-2)) rfl kb_m2 ?_
        refine x_inv (N := m_X12_told) (As := [.int (-2)]) (b := 125) (st := []) (d' := 99) (mc := 0) (ms := 0) (host := "") 12 rfl t_X12_told ⟨Or.inl q_12_197, i_X12_told.1, i_X12_told.2⟩ ⟨by decide, rfl⟩ (congrArg Prod.fst (F.1 125 (12, 92) rfl rfl)) rfl (by decide) rfl rfl ⟨by decide, by decide⟩ (jC.of rfl k_X12_told rfl ?_)
        show jX m_X12_told 99 0 0 0 [(0, .ref 125), (1, .int (-2))] [] _ 0 0 _
        refine x_aloadn (x := 125) rfl rfl ?_
        refine x_iloadn (x := (-2)) rfl rfl ?_
        refine x_ifge (tgt := 9) rfl rfl (br_f (by decide) ?_)
        refine x_iloadn (x := (-2)) rfl rfl ?_
        refine x_goto (tgt := 10) rfl rfl ?_
        refine x_putI 12 1 rfl f_12_183 rfl (jfin_no TX12 RX12 92 rfl rfl) (congrArg Prod.fst (F.1 125 (12, 92) rfl rfl)) rfl ?_
        refine x_iloadn (x := (-2)) rfl rfl ?_
        refine x_iret rfl rfl ?_
        show jX m_X12_appeal 100 0 0 48 [(0, .ref 125), (1, .int a1), (2, .int a2), (3, .int a3)] [.int (-2)] _ 0 0 _
        refine x_iret rfl rfl ?_
        exact jqe (show sp_appeal a1 a2 a3 = (-2) by unfold sp_appeal; (repeat' split) <;> first | rfl | (exfalso; omega)) (hQ _ (by repeat (first | exact O | refine jOl_si rfl ?_ | refine jOl_sl rfl ?_ | refine jOl_ci rfl ?_ | refine jOl_cl rfl ?_ | refine jOl_sr rfl ?_)))
    ·
      refine x_aloadn (x := 125) rfl rfl ?_
      refine x_iconst (v := (-1)) rfl ki_m1 ?_
      refine x_inv (N := m_X12_told) (As := [.int (-1)]) (b := 125) (st := []) (d' := 99) (mc := 0) (ms := 0) (host := "") 12 rfl t_X12_told ⟨Or.inl q_12_197, i_X12_told.1, i_X12_told.2⟩ ⟨by decide, rfl⟩ (congrArg Prod.fst (F.1 125 (12, 92) rfl rfl)) rfl (by decide) rfl rfl ⟨by decide, by decide⟩ (jC.of rfl k_X12_told rfl ?_)
      show jX m_X12_told 99 0 0 0 [(0, .ref 125), (1, .int (-1))] [] _ 0 0 _
      refine x_aloadn (x := 125) rfl rfl ?_
      refine x_iloadn (x := (-1)) rfl rfl ?_
      refine x_ifge (tgt := 9) rfl rfl (br_f (by decide) ?_)
      refine x_iloadn (x := (-1)) rfl rfl ?_
      refine x_goto (tgt := 10) rfl rfl ?_
      refine x_putI 12 1 rfl f_12_183 rfl (jfin_no TX12 RX12 92 rfl rfl) (congrArg Prod.fst (F.1 125 (12, 92) rfl rfl)) rfl ?_
      refine x_iloadn (x := (-1)) rfl rfl ?_
      refine x_iret rfl rfl ?_
      show jX m_X12_appeal 100 0 0 24 [(0, .ref 125), (1, .int a1), (2, .int a2), (3, .int a3)] [.int (-1)] _ 0 0 _
      refine x_iret rfl rfl ?_
      exact jqe (show sp_appeal a1 a2 a3 = (-1) by unfold sp_appeal; (repeat' split) <;> first | rfl | (exfalso; omega)) (hQ _ (by repeat (first | exact O | refine jOl_si rfl ?_ | refine jOl_sl rfl ?_ | refine jOl_ci rfl ?_ | refine jOl_cl rfl ?_ | refine jOl_sr rfl ?_)))
def sp_holding : Int32 := 0
set_option maxRecDepth 100000 in
set_option maxHeartbeats 40000000 in
theorem px_holding {xs : Nat → Int32} {h : jH} {Q : Option Value → jH → Prop} (F : jFb 31 h) (O : jOl 7 xs h) (hQ : ∀ h', jFb 125 h' → jOl 7 xs h' → Q (some (.int (sp_holding))) h') : jC m_X11_holding 100 0 0 [.ref 31] h Q := by
  have FM := jFb_up 125 rfl F
  refine jC.of rfl k_X11_holding rfl ?_
  show jX m_X11_holding 100 0 0 0 [(0, .ref 31)] [] _ 0 0 _
  refine x_aloadn (x := 31) rfl rfl ?_
  refine x_getR (b := 32) 11 0 rfl f_11_10 rfl (congrArg Prod.fst (F.1 31 (11, 13) rfl rfl)) (F.2.1 3968 32 rfl rfl) ?_
  refine x_getR (b := 49) 1 8 rfl f_11_408 rfl (congrArg Prod.fst (F.1 32 (1, 20) rfl rfl)) (F.2.1 4104 49 rfl rfl) ?_
  refine x_inv (N := m_X8_isFull) (As := []) (b := 49) (st := []) (d' := 99) (mc := 0) (ms := 0) (host := "") 8 rfl t_X8_isFull ⟨Or.inl q_11_130, i_X8_isFull.1, i_X8_isFull.2⟩ ⟨by decide, rfl⟩ (congrArg Prod.fst (F.1 49 (8, 4) rfl rfl)) rfl (by decide) rfl rfl ⟨by decide, by decide⟩ (jC.of rfl k_X8_isFull rfl ?_)
  show jX m_X8_isFull 99 0 0 0 [(0, .ref 49)] [] _ 0 0 _
  refine x_aloadn (x := 49) rfl rfl ?_
  refine y_getI (v := 0) 8 3 rfl f_8_7 rfl (congrArg Prod.fst (F.1 49 (8, 4) rfl rfl)) (F.2.2.1 6275 0 rfl rfl) ?_
  refine x_aloadn (x := 49) rfl rfl ?_
  refine y_getI (v := 40) 8 1 rfl f_8_22 rfl (congrArg Prod.fst (F.1 49 (8, 4) rfl rfl)) (F.2.2.1 6273 40 rfl rfl) ?_
  refine x_iclt (tgt := 15) rfl rfl (br_t (by decide) ?_)
  refine x_iconst (v := 0) rfl ki_0 ?_
  refine x_zret rfl rfl (by first | decide | exact jp_01 _) ?_
  show jX m_X11_holding 100 0 0 10 [(0, .ref 31)] [.int 0] _ 0 0 _
  refine x_ifeq (tgt := 20) rfl rfl (br_t (by decide) ?_)
  refine x_aloadn (x := 31) rfl rfl ?_
  refine x_aloadn (x := 31) rfl rfl ?_
  refine x_iconst (v := (-1)) rfl ki_m1 ?_
  refine x_iconst (v := 0) rfl ki_0 ?_
  refine x_iconst (v := 0) rfl ki_0 ?_
  refine x_iconst (v := 0) rfl ki_0 ?_
  refine x_iconst (v := 0) rfl ki_0 ?_
  refine x_inv (N := m_X11_addHolding) (As := [.int (-1), .int 0, .int 0, .int 0, .int 0]) (b := 31) (st := [.ref 31]) (d' := 99) (mc := 0) (ms := 0) (host := "") 11 rfl t_X11_addHolding ⟨Or.inl q_11_411, i_X11_addHolding.1, i_X11_addHolding.2⟩ ⟨by decide, rfl⟩ (congrArg Prod.fst (F.1 31 (11, 13) rfl rfl)) rfl (by decide) rfl rfl ⟨by decide, by decide⟩ (jC.of rfl k_X11_addHolding rfl ?_)
  show jX m_X11_addHolding 99 0 0 0 [(0, .ref 31), (1, .int (-1)), (2, .int 0), (3, .int 0), (4, .int 0), (5, .int 0)] [] _ 0 0 _
  refine x_aloadn (x := 31) rfl rfl ?_
  refine x_getR (b := 32) 11 0 rfl f_11_10 rfl (congrArg Prod.fst (F.1 31 (11, 13) rfl rfl)) (F.2.1 3968 32 rfl rfl) ?_
  refine x_getR (b := 49) 1 8 rfl f_11_408 rfl (congrArg Prod.fst (F.1 32 (1, 20) rfl rfl)) (F.2.1 4104 49 rfl rfl) ?_
  refine y_getI (v := 0) 8 3 rfl f_11_142 rfl (congrArg Prod.fst (F.1 49 (8, 4) rfl rfl)) (F.2.2.1 6275 0 rfl rfl) ?_
  refine x_istore (ls' := [(6, .int 0), (0, .ref 31), (1, .int (-1)), (2, .int 0), (3, .int 0), (4, .int 0), (5, .int 0)]) rfl rfl rfl ?_
  refine x_aloadn (x := 31) rfl rfl ?_
  refine x_getR (b := 32) 11 0 rfl f_11_10 rfl (congrArg Prod.fst (F.1 31 (11, 13) rfl rfl)) (F.2.1 3968 32 rfl rfl) ?_
  refine x_getR (b := 49) 1 8 rfl f_11_408 rfl (congrArg Prod.fst (F.1 32 (1, 20) rfl rfl)) (F.2.1 4104 49 rfl rfl) ?_
  refine x_iload (x := 0) rfl rfl ?_
  refine x_iload (x := 0) rfl rfl ?_
  refine x_iloadn (x := (-1)) rfl rfl ?_
  refine x_iloadn (x := 0) rfl rfl ?_
  refine x_iloadn (x := 0) rfl rfl ?_
  refine x_iconst (v := 0) rfl ki_0 ?_
  refine x_inv (N := m_X8_add) (As := [.int 0, .int 0, .int (-1), .int 0, .int 0, .int 0]) (b := 49) (st := []) (d' := 98) (mc := 0) (ms := 0) (host := "") 8 rfl t_X8_add ⟨Or.inl q_11_145, i_X8_add.1, i_X8_add.2⟩ ⟨by decide, rfl⟩ (congrArg Prod.fst (F.1 49 (8, 4) rfl rfl)) rfl (by decide) rfl rfl ⟨by decide, by decide⟩ (jC.of rfl k_X8_add rfl ?_)
  show jX m_X8_add 98 0 0 0 [(0, .ref 49), (1, .int 0), (2, .int 0), (3, .int (-1)), (4, .int 0), (5, .int 0), (6, .int 0)] [] _ 0 0 _
  refine x_aloadn (x := 49) rfl rfl ?_
  refine y_getI (v := 0) 8 3 rfl f_8_7 rfl (congrArg Prod.fst (F.1 49 (8, 4) rfl rfl)) (F.2.2.1 6275 0 rfl rfl) ?_
  refine x_aloadn (x := 49) rfl rfl ?_
  refine y_getI (v := 40) 8 1 rfl f_8_22 rfl (congrArg Prod.fst (F.1 49 (8, 4) rfl rfl)) (F.2.2.1 6273 40 rfl rfl) ?_
  refine x_iclt (tgt := 12) rfl rfl (br_t (by decide) ?_)
  refine x_aloadn (x := 49) rfl rfl ?_
  refine y_getI (v := 0) 8 3 rfl f_8_7 rfl (congrArg Prod.fst (F.1 49 (8, 4) rfl rfl)) (F.2.2.1 6275 0 rfl rfl) ?_
  refine x_istore (ls' := [(7, .int 0), (0, .ref 49), (1, .int 0), (2, .int 0), (3, .int (-1)), (4, .int 0), (5, .int 0), (6, .int 0)]) rfl rfl rfl ?_
  refine x_aloadn (x := 49) rfl rfl ?_
  refine x_iload (x := 0) rfl rfl ?_
  refine x_iconst (v := 1) rfl ki_1 ?_
  refine y_iadd (v := 1) rfl (by decide) ?_
  refine x_putI 8 3 rfl f_8_7 rfl (jfin_no TX8 RX8 4 rfl rfl) (congrArg Prod.fst (F.1 49 (8, 4) rfl rfl)) rfl ?_
  refine x_aloadn (x := 49) rfl rfl ?_
  refine x_iload (x := 0) rfl rfl ?_
  refine x_iconst (v := 0) rfl ki_0 ?_
  refine x_iloadn (x := 0) rfl rfl ?_
  refine x_inv (N := m_X8_put) (As := [.int 0, .int 0, .int 0]) (b := 49) (st := []) (d' := 97) (mc := 0) (ms := 0) (host := "") 8 rfl t_X8_put ⟨Or.inl q_8_29, i_X8_put.1, i_X8_put.2⟩ ⟨by decide, rfl⟩ (congrArg Prod.fst (F.1 49 (8, 4) rfl rfl)) rfl (by decide) rfl rfl ⟨by decide, by decide⟩ (jC.of rfl k_X8_put rfl ?_)
  show jX m_X8_put 97 0 0 0 [(0, .ref 49), (1, .int 0), (2, .int 0), (3, .int 0)] [] _ 0 0 _
  refine x_iloadn (x := 0) rfl rfl ?_
  refine x_iflt (tgt := 38) rfl rfl (br_f (by decide) ?_)
  refine x_iloadn (x := 0) rfl rfl ?_
  refine x_aloadn (x := 49) rfl rfl ?_
  refine y_getI (v := 1) 8 3 rfl f_8_7 rfl (congrArg Prod.fst (F.1 49 (8, 4) rfl rfl)) rfl ?_
  refine x_icge (tgt := 38) rfl rfl (br_f (by decide) ?_)
  refine x_iloadn (x := 0) rfl rfl ?_
  refine x_iflt (tgt := 38) rfl rfl (br_f (by decide) ?_)
  refine x_iloadn (x := 0) rfl rfl ?_
  refine x_aloadn (x := 49) rfl rfl ?_
  refine y_getI (v := 5) 8 0 rfl f_8_19 rfl (congrArg Prod.fst (F.1 49 (8, 4) rfl rfl)) (F.2.2.1 6272 5 rfl rfl) ?_
  refine x_icge (tgt := 38) rfl rfl (br_f (by decide) ?_)
  refine x_aloadn (x := 49) rfl rfl ?_
  refine x_getR (b := 50) 8 2 rfl f_8_25 rfl (congrArg Prod.fst (F.1 49 (8, 4) rfl rfl)) (F.2.1 6274 50 rfl rfl) ?_
  refine x_iloadn (x := 0) rfl rfl ?_
  refine x_aloadn (x := 49) rfl rfl ?_
  refine y_getI (v := 5) 8 0 rfl f_8_19 rfl (congrArg Prod.fst (F.1 49 (8, 4) rfl rfl)) (F.2.2.1 6272 5 rfl rfl) ?_
  refine y_imul (v := 0) rfl (by decide) ?_
  refine x_iloadn (x := 0) rfl rfl ?_
  refine y_iadd (v := 0) rfl (by decide) ?_
  refine x_iloadn (x := 0) rfl rfl ?_
  refine y_iast (N := 200) 0 rfl (F.1 50 (100, 200) rfl rfl) rfl (jinb_of (by decide)) (by decide) ?_
  refine x_vret rfl rfl ?_
  show jX m_X8_add 98 0 0 34 [(7, .int 0), (0, .ref 49), (1, .int 0), (2, .int 0), (3, .int (-1)), (4, .int 0), (5, .int 0), (6, .int 0)] [] _ 0 0 _
  refine x_aloadn (x := 49) rfl rfl ?_
  refine x_iload (x := 0) rfl rfl ?_
  refine x_iconst (v := 1) rfl ki_1 ?_
  refine x_iloadn (x := 0) rfl rfl ?_
  refine x_inv (N := m_X8_put) (As := [.int 0, .int 1, .int 0]) (b := 49) (st := []) (d' := 97) (mc := 0) (ms := 0) (host := "") 8 rfl t_X8_put ⟨Or.inl q_8_29, i_X8_put.1, i_X8_put.2⟩ ⟨by decide, rfl⟩ (congrArg Prod.fst (F.1 49 (8, 4) rfl rfl)) rfl (by decide) rfl rfl ⟨by decide, by decide⟩ (jC.of rfl k_X8_put rfl ?_)
  show jX m_X8_put 97 0 0 0 [(0, .ref 49), (1, .int 0), (2, .int 1), (3, .int 0)] [] _ 0 0 _
  refine x_iloadn (x := 0) rfl rfl ?_
  refine x_iflt (tgt := 38) rfl rfl (br_f (by decide) ?_)
  refine x_iloadn (x := 0) rfl rfl ?_
  refine x_aloadn (x := 49) rfl rfl ?_
  refine y_getI (v := 1) 8 3 rfl f_8_7 rfl (congrArg Prod.fst (F.1 49 (8, 4) rfl rfl)) rfl ?_
  refine x_icge (tgt := 38) rfl rfl (br_f (by decide) ?_)
  refine x_iloadn (x := 1) rfl rfl ?_
  refine x_iflt (tgt := 38) rfl rfl (br_f (by decide) ?_)
  refine x_iloadn (x := 1) rfl rfl ?_
  refine x_aloadn (x := 49) rfl rfl ?_
  refine y_getI (v := 5) 8 0 rfl f_8_19 rfl (congrArg Prod.fst (F.1 49 (8, 4) rfl rfl)) (F.2.2.1 6272 5 rfl rfl) ?_
  refine x_icge (tgt := 38) rfl rfl (br_f (by decide) ?_)
  refine x_aloadn (x := 49) rfl rfl ?_
  refine x_getR (b := 50) 8 2 rfl f_8_25 rfl (congrArg Prod.fst (F.1 49 (8, 4) rfl rfl)) (F.2.1 6274 50 rfl rfl) ?_
  refine x_iloadn (x := 0) rfl rfl ?_
  refine x_aloadn (x := 49) rfl rfl ?_
  refine y_getI (v := 5) 8 0 rfl f_8_19 rfl (congrArg Prod.fst (F.1 49 (8, 4) rfl rfl)) (F.2.2.1 6272 5 rfl rfl) ?_
  refine y_imul (v := 0) rfl (by decide) ?_
  refine x_iloadn (x := 1) rfl rfl ?_
  refine y_iadd (v := 1) rfl (by decide) ?_
  refine x_iloadn (x := 0) rfl rfl ?_
  refine y_iast (N := 200) 1 rfl (F.1 50 (100, 200) rfl rfl) rfl (jinb_of (by decide)) (by decide) ?_
  refine x_vret rfl rfl ?_
  show jX m_X8_add 98 0 0 42 [(7, .int 0), (0, .ref 49), (1, .int 0), (2, .int 0), (3, .int (-1)), (4, .int 0), (5, .int 0), (6, .int 0)] [] _ 0 0 _
  refine x_aloadn (x := 49) rfl rfl ?_
  refine x_iload (x := 0) rfl rfl ?_
  refine x_iconst (v := 2) rfl ki_2 ?_
  refine x_iloadn (x := (-1)) rfl rfl ?_
  refine x_inv (N := m_X8_put) (As := [.int 0, .int 2, .int (-1)]) (b := 49) (st := []) (d' := 97) (mc := 0) (ms := 0) (host := "") 8 rfl t_X8_put ⟨Or.inl q_8_29, i_X8_put.1, i_X8_put.2⟩ ⟨by decide, rfl⟩ (congrArg Prod.fst (F.1 49 (8, 4) rfl rfl)) rfl (by decide) rfl rfl ⟨by decide, by decide⟩ (jC.of rfl k_X8_put rfl ?_)
  show jX m_X8_put 97 0 0 0 [(0, .ref 49), (1, .int 0), (2, .int 2), (3, .int (-1))] [] _ 0 0 _
  refine x_iloadn (x := 0) rfl rfl ?_
  refine x_iflt (tgt := 38) rfl rfl (br_f (by decide) ?_)
  refine x_iloadn (x := 0) rfl rfl ?_
  refine x_aloadn (x := 49) rfl rfl ?_
  refine y_getI (v := 1) 8 3 rfl f_8_7 rfl (congrArg Prod.fst (F.1 49 (8, 4) rfl rfl)) rfl ?_
  refine x_icge (tgt := 38) rfl rfl (br_f (by decide) ?_)
  refine x_iloadn (x := 2) rfl rfl ?_
  refine x_iflt (tgt := 38) rfl rfl (br_f (by decide) ?_)
  refine x_iloadn (x := 2) rfl rfl ?_
  refine x_aloadn (x := 49) rfl rfl ?_
  refine y_getI (v := 5) 8 0 rfl f_8_19 rfl (congrArg Prod.fst (F.1 49 (8, 4) rfl rfl)) (F.2.2.1 6272 5 rfl rfl) ?_
  refine x_icge (tgt := 38) rfl rfl (br_f (by decide) ?_)
  refine x_aloadn (x := 49) rfl rfl ?_
  refine x_getR (b := 50) 8 2 rfl f_8_25 rfl (congrArg Prod.fst (F.1 49 (8, 4) rfl rfl)) (F.2.1 6274 50 rfl rfl) ?_
  refine x_iloadn (x := 0) rfl rfl ?_
  refine x_aloadn (x := 49) rfl rfl ?_
  refine y_getI (v := 5) 8 0 rfl f_8_19 rfl (congrArg Prod.fst (F.1 49 (8, 4) rfl rfl)) (F.2.2.1 6272 5 rfl rfl) ?_
  refine y_imul (v := 0) rfl (by decide) ?_
  refine x_iloadn (x := 2) rfl rfl ?_
  refine y_iadd (v := 2) rfl (by decide) ?_
  refine x_iloadn (x := (-1)) rfl rfl ?_
  refine y_iast (N := 200) 2 rfl (F.1 50 (100, 200) rfl rfl) rfl (jinb_of (by decide)) (by decide) ?_
  refine x_vret rfl rfl ?_
  show jX m_X8_add 98 0 0 50 [(7, .int 0), (0, .ref 49), (1, .int 0), (2, .int 0), (3, .int (-1)), (4, .int 0), (5, .int 0), (6, .int 0)] [] _ 0 0 _
  refine x_aloadn (x := 49) rfl rfl ?_
  refine x_iload (x := 0) rfl rfl ?_
  refine x_iconst (v := 3) rfl ki_3 ?_
  refine x_iload (x := 0) rfl rfl ?_
  refine x_inv (N := m_X8_put) (As := [.int 0, .int 3, .int 0]) (b := 49) (st := []) (d' := 97) (mc := 0) (ms := 0) (host := "") 8 rfl t_X8_put ⟨Or.inl q_8_29, i_X8_put.1, i_X8_put.2⟩ ⟨by decide, rfl⟩ (congrArg Prod.fst (F.1 49 (8, 4) rfl rfl)) rfl (by decide) rfl rfl ⟨by decide, by decide⟩ (jC.of rfl k_X8_put rfl ?_)
  show jX m_X8_put 97 0 0 0 [(0, .ref 49), (1, .int 0), (2, .int 3), (3, .int 0)] [] _ 0 0 _
  refine x_iloadn (x := 0) rfl rfl ?_
  refine x_iflt (tgt := 38) rfl rfl (br_f (by decide) ?_)
  refine x_iloadn (x := 0) rfl rfl ?_
  refine x_aloadn (x := 49) rfl rfl ?_
  refine y_getI (v := 1) 8 3 rfl f_8_7 rfl (congrArg Prod.fst (F.1 49 (8, 4) rfl rfl)) rfl ?_
  refine x_icge (tgt := 38) rfl rfl (br_f (by decide) ?_)
  refine x_iloadn (x := 3) rfl rfl ?_
  refine x_iflt (tgt := 38) rfl rfl (br_f (by decide) ?_)
  refine x_iloadn (x := 3) rfl rfl ?_
  refine x_aloadn (x := 49) rfl rfl ?_
  refine y_getI (v := 5) 8 0 rfl f_8_19 rfl (congrArg Prod.fst (F.1 49 (8, 4) rfl rfl)) (F.2.2.1 6272 5 rfl rfl) ?_
  refine x_icge (tgt := 38) rfl rfl (br_f (by decide) ?_)
  refine x_aloadn (x := 49) rfl rfl ?_
  refine x_getR (b := 50) 8 2 rfl f_8_25 rfl (congrArg Prod.fst (F.1 49 (8, 4) rfl rfl)) (F.2.1 6274 50 rfl rfl) ?_
  refine x_iloadn (x := 0) rfl rfl ?_
  refine x_aloadn (x := 49) rfl rfl ?_
  refine y_getI (v := 5) 8 0 rfl f_8_19 rfl (congrArg Prod.fst (F.1 49 (8, 4) rfl rfl)) (F.2.2.1 6272 5 rfl rfl) ?_
  refine y_imul (v := 0) rfl (by decide) ?_
  refine x_iloadn (x := 3) rfl rfl ?_
  refine y_iadd (v := 3) rfl (by decide) ?_
  refine x_iloadn (x := 0) rfl rfl ?_
  refine y_iast (N := 200) 3 rfl (F.1 50 (100, 200) rfl rfl) rfl (jinb_of (by decide)) (by decide) ?_
  refine x_vret rfl rfl ?_
  show jX m_X8_add 98 0 0 59 [(7, .int 0), (0, .ref 49), (1, .int 0), (2, .int 0), (3, .int (-1)), (4, .int 0), (5, .int 0), (6, .int 0)] [] _ 0 0 _
  refine x_aloadn (x := 49) rfl rfl ?_
  refine x_iload (x := 0) rfl rfl ?_
  refine x_iconst (v := 4) rfl ki_4 ?_
  refine x_iload (x := 0) rfl rfl ?_
  refine x_inv (N := m_X8_put) (As := [.int 0, .int 4, .int 0]) (b := 49) (st := []) (d' := 97) (mc := 0) (ms := 0) (host := "") 8 rfl t_X8_put ⟨Or.inl q_8_29, i_X8_put.1, i_X8_put.2⟩ ⟨by decide, rfl⟩ (congrArg Prod.fst (F.1 49 (8, 4) rfl rfl)) rfl (by decide) rfl rfl ⟨by decide, by decide⟩ (jC.of rfl k_X8_put rfl ?_)
  show jX m_X8_put 97 0 0 0 [(0, .ref 49), (1, .int 0), (2, .int 4), (3, .int 0)] [] _ 0 0 _
  refine x_iloadn (x := 0) rfl rfl ?_
  refine x_iflt (tgt := 38) rfl rfl (br_f (by decide) ?_)
  refine x_iloadn (x := 0) rfl rfl ?_
  refine x_aloadn (x := 49) rfl rfl ?_
  refine y_getI (v := 1) 8 3 rfl f_8_7 rfl (congrArg Prod.fst (F.1 49 (8, 4) rfl rfl)) rfl ?_
  refine x_icge (tgt := 38) rfl rfl (br_f (by decide) ?_)
  refine x_iloadn (x := 4) rfl rfl ?_
  refine x_iflt (tgt := 38) rfl rfl (br_f (by decide) ?_)
  refine x_iloadn (x := 4) rfl rfl ?_
  refine x_aloadn (x := 49) rfl rfl ?_
  refine y_getI (v := 5) 8 0 rfl f_8_19 rfl (congrArg Prod.fst (F.1 49 (8, 4) rfl rfl)) (F.2.2.1 6272 5 rfl rfl) ?_
  refine x_icge (tgt := 38) rfl rfl (br_f (by decide) ?_)
  refine x_aloadn (x := 49) rfl rfl ?_
  refine x_getR (b := 50) 8 2 rfl f_8_25 rfl (congrArg Prod.fst (F.1 49 (8, 4) rfl rfl)) (F.2.1 6274 50 rfl rfl) ?_
  refine x_iloadn (x := 0) rfl rfl ?_
  refine x_aloadn (x := 49) rfl rfl ?_
  refine y_getI (v := 5) 8 0 rfl f_8_19 rfl (congrArg Prod.fst (F.1 49 (8, 4) rfl rfl)) (F.2.2.1 6272 5 rfl rfl) ?_
  refine y_imul (v := 0) rfl (by decide) ?_
  refine x_iloadn (x := 4) rfl rfl ?_
  refine y_iadd (v := 4) rfl (by decide) ?_
  refine x_iloadn (x := 0) rfl rfl ?_
  refine y_iast (N := 200) 4 rfl (F.1 50 (100, 200) rfl rfl) rfl (jinb_of (by decide)) (by decide) ?_
  refine x_vret rfl rfl ?_
  show jX m_X8_add 98 0 0 68 [(7, .int 0), (0, .ref 49), (1, .int 0), (2, .int 0), (3, .int (-1)), (4, .int 0), (5, .int 0), (6, .int 0)] [] _ 0 0 _
  refine x_aloadn (x := 49) rfl rfl ?_
  refine x_iload (x := 0) rfl rfl ?_
  refine x_iconst (v := 5) rfl ki_5 ?_
  refine x_iload (x := 0) rfl rfl ?_
  refine x_inv (N := m_X8_put) (As := [.int 0, .int 5, .int 0]) (b := 49) (st := []) (d' := 97) (mc := 0) (ms := 0) (host := "") 8 rfl t_X8_put ⟨Or.inl q_8_29, i_X8_put.1, i_X8_put.2⟩ ⟨by decide, rfl⟩ (congrArg Prod.fst (F.1 49 (8, 4) rfl rfl)) rfl (by decide) rfl rfl ⟨by decide, by decide⟩ (jC.of rfl k_X8_put rfl ?_)
  show jX m_X8_put 97 0 0 0 [(0, .ref 49), (1, .int 0), (2, .int 5), (3, .int 0)] [] _ 0 0 _
  refine x_iloadn (x := 0) rfl rfl ?_
  refine x_iflt (tgt := 38) rfl rfl (br_f (by decide) ?_)
  refine x_iloadn (x := 0) rfl rfl ?_
  refine x_aloadn (x := 49) rfl rfl ?_
  refine y_getI (v := 1) 8 3 rfl f_8_7 rfl (congrArg Prod.fst (F.1 49 (8, 4) rfl rfl)) rfl ?_
  refine x_icge (tgt := 38) rfl rfl (br_f (by decide) ?_)
  refine x_iloadn (x := 5) rfl rfl ?_
  refine x_iflt (tgt := 38) rfl rfl (br_f (by decide) ?_)
  refine x_iloadn (x := 5) rfl rfl ?_
  refine x_aloadn (x := 49) rfl rfl ?_
  refine y_getI (v := 5) 8 0 rfl f_8_19 rfl (congrArg Prod.fst (F.1 49 (8, 4) rfl rfl)) (F.2.2.1 6272 5 rfl rfl) ?_
  refine x_icge (tgt := 38) rfl rfl (br_t (by decide) ?_)
  refine x_vret rfl rfl ?_
  show jX m_X8_add 98 0 0 77 [(7, .int 0), (0, .ref 49), (1, .int 0), (2, .int 0), (3, .int (-1)), (4, .int 0), (5, .int 0), (6, .int 0)] [] _ 0 0 _
  refine x_vret rfl rfl ?_
  show jX m_X11_addHolding 99 0 0 30 [(6, .int 0), (0, .ref 31), (1, .int (-1)), (2, .int 0), (3, .int 0), (4, .int 0), (5, .int 0)] [] _ 0 0 _
  refine x_aloadn (x := 31) rfl rfl ?_
  refine x_getR (b := 32) 11 0 rfl f_11_10 rfl (congrArg Prod.fst (F.1 31 (11, 13) rfl rfl)) (F.2.1 3968 32 rfl rfl) ?_
  refine x_getR (b := 63) 1 15 rfl f_11_159 rfl (congrArg Prod.fst (F.1 32 (1, 20) rfl rfl)) (F.2.1 4111 63 rfl rfl) ?_
  refine x_iconst (v := 3) rfl ki_3 ?_
  refine x_iload (x := 0) rfl rfl ?_
  refine x_iconst (v := 0) rfl ki_0 ?_
  refine x_iconst (v := 0) rfl ki_0 ?_
  refine x_iconst (v := 0) rfl ki_0 ?_
  refine x_iconst (v := 0) rfl ki_0 ?_
  refine x_inv (N := m_X8_add) (As := [.int 3, .int 0, .int 0, .int 0, .int 0, .int 0]) (b := 63) (st := []) (d' := 98) (mc := 0) (ms := 0) (host := "") 8 rfl t_X8_add ⟨Or.inl q_11_145, i_X8_add.1, i_X8_add.2⟩ ⟨by decide, rfl⟩ (congrArg Prod.fst (F.1 63 (8, 4) rfl rfl)) rfl (by decide) rfl rfl ⟨by decide, by decide⟩ (jC.of rfl k_X8_add rfl ?_)
  show jX m_X8_add 98 0 0 0 [(0, .ref 63), (1, .int 3), (2, .int 0), (3, .int 0), (4, .int 0), (5, .int 0), (6, .int 0)] [] _ 0 0 _
  refine x_aloadn (x := 63) rfl rfl ?_
  refine y_getI (v := 0) 8 3 rfl f_8_7 rfl (congrArg Prod.fst (F.1 63 (8, 4) rfl rfl)) (F.2.2.1 8067 0 rfl rfl) ?_
  refine x_aloadn (x := 63) rfl rfl ?_
  refine y_getI (v := 370) 8 1 rfl f_8_22 rfl (congrArg Prod.fst (F.1 63 (8, 4) rfl rfl)) (F.2.2.1 8065 370 rfl rfl) ?_
  refine x_iclt (tgt := 12) rfl rfl (br_t (by decide) ?_)
  refine x_aloadn (x := 63) rfl rfl ?_
  refine y_getI (v := 0) 8 3 rfl f_8_7 rfl (congrArg Prod.fst (F.1 63 (8, 4) rfl rfl)) (F.2.2.1 8067 0 rfl rfl) ?_
  refine x_istore (ls' := [(7, .int 0), (0, .ref 63), (1, .int 3), (2, .int 0), (3, .int 0), (4, .int 0), (5, .int 0), (6, .int 0)]) rfl rfl rfl ?_
  refine x_aloadn (x := 63) rfl rfl ?_
  refine x_iload (x := 0) rfl rfl ?_
  refine x_iconst (v := 1) rfl ki_1 ?_
  refine y_iadd (v := 1) rfl (by decide) ?_
  refine x_putI 8 3 rfl f_8_7 rfl (jfin_no TX8 RX8 4 rfl rfl) (congrArg Prod.fst (F.1 63 (8, 4) rfl rfl)) rfl ?_
  refine x_aloadn (x := 63) rfl rfl ?_
  refine x_iload (x := 0) rfl rfl ?_
  refine x_iconst (v := 0) rfl ki_0 ?_
  refine x_iloadn (x := 3) rfl rfl ?_
  refine x_inv (N := m_X8_put) (As := [.int 0, .int 0, .int 3]) (b := 63) (st := []) (d' := 97) (mc := 0) (ms := 0) (host := "") 8 rfl t_X8_put ⟨Or.inl q_8_29, i_X8_put.1, i_X8_put.2⟩ ⟨by decide, rfl⟩ (congrArg Prod.fst (F.1 63 (8, 4) rfl rfl)) rfl (by decide) rfl rfl ⟨by decide, by decide⟩ (jC.of rfl k_X8_put rfl ?_)
  show jX m_X8_put 97 0 0 0 [(0, .ref 63), (1, .int 0), (2, .int 0), (3, .int 3)] [] _ 0 0 _
  refine x_iloadn (x := 0) rfl rfl ?_
  refine x_iflt (tgt := 38) rfl rfl (br_f (by decide) ?_)
  refine x_iloadn (x := 0) rfl rfl ?_
  refine x_aloadn (x := 63) rfl rfl ?_
  refine y_getI (v := 1) 8 3 rfl f_8_7 rfl (congrArg Prod.fst (F.1 63 (8, 4) rfl rfl)) rfl ?_
  refine x_icge (tgt := 38) rfl rfl (br_f (by decide) ?_)
  refine x_iloadn (x := 0) rfl rfl ?_
  refine x_iflt (tgt := 38) rfl rfl (br_f (by decide) ?_)
  refine x_iloadn (x := 0) rfl rfl ?_
  refine x_aloadn (x := 63) rfl rfl ?_
  refine y_getI (v := 2) 8 0 rfl f_8_19 rfl (congrArg Prod.fst (F.1 63 (8, 4) rfl rfl)) (F.2.2.1 8064 2 rfl rfl) ?_
  refine x_icge (tgt := 38) rfl rfl (br_f (by decide) ?_)
  refine x_aloadn (x := 63) rfl rfl ?_
  refine x_getR (b := 64) 8 2 rfl f_8_25 rfl (congrArg Prod.fst (F.1 63 (8, 4) rfl rfl)) (F.2.1 8066 64 rfl rfl) ?_
  refine x_iloadn (x := 0) rfl rfl ?_
  refine x_aloadn (x := 63) rfl rfl ?_
  refine y_getI (v := 2) 8 0 rfl f_8_19 rfl (congrArg Prod.fst (F.1 63 (8, 4) rfl rfl)) (F.2.2.1 8064 2 rfl rfl) ?_
  refine y_imul (v := 0) rfl (by decide) ?_
  refine x_iloadn (x := 0) rfl rfl ?_
  refine y_iadd (v := 0) rfl (by decide) ?_
  refine x_iloadn (x := 3) rfl rfl ?_
  refine y_iast (N := 740) 0 rfl (F.1 64 (100, 740) rfl rfl) rfl (jinb_of (by decide)) (by decide) ?_
  refine x_vret rfl rfl ?_
  show jX m_X8_add 98 0 0 34 [(7, .int 0), (0, .ref 63), (1, .int 3), (2, .int 0), (3, .int 0), (4, .int 0), (5, .int 0), (6, .int 0)] [] _ 0 0 _
  refine x_aloadn (x := 63) rfl rfl ?_
  refine x_iload (x := 0) rfl rfl ?_
  refine x_iconst (v := 1) rfl ki_1 ?_
  refine x_iloadn (x := 0) rfl rfl ?_
  refine x_inv (N := m_X8_put) (As := [.int 0, .int 1, .int 0]) (b := 63) (st := []) (d' := 97) (mc := 0) (ms := 0) (host := "") 8 rfl t_X8_put ⟨Or.inl q_8_29, i_X8_put.1, i_X8_put.2⟩ ⟨by decide, rfl⟩ (congrArg Prod.fst (F.1 63 (8, 4) rfl rfl)) rfl (by decide) rfl rfl ⟨by decide, by decide⟩ (jC.of rfl k_X8_put rfl ?_)
  show jX m_X8_put 97 0 0 0 [(0, .ref 63), (1, .int 0), (2, .int 1), (3, .int 0)] [] _ 0 0 _
  refine x_iloadn (x := 0) rfl rfl ?_
  refine x_iflt (tgt := 38) rfl rfl (br_f (by decide) ?_)
  refine x_iloadn (x := 0) rfl rfl ?_
  refine x_aloadn (x := 63) rfl rfl ?_
  refine y_getI (v := 1) 8 3 rfl f_8_7 rfl (congrArg Prod.fst (F.1 63 (8, 4) rfl rfl)) rfl ?_
  refine x_icge (tgt := 38) rfl rfl (br_f (by decide) ?_)
  refine x_iloadn (x := 1) rfl rfl ?_
  refine x_iflt (tgt := 38) rfl rfl (br_f (by decide) ?_)
  refine x_iloadn (x := 1) rfl rfl ?_
  refine x_aloadn (x := 63) rfl rfl ?_
  refine y_getI (v := 2) 8 0 rfl f_8_19 rfl (congrArg Prod.fst (F.1 63 (8, 4) rfl rfl)) (F.2.2.1 8064 2 rfl rfl) ?_
  refine x_icge (tgt := 38) rfl rfl (br_f (by decide) ?_)
  refine x_aloadn (x := 63) rfl rfl ?_
  refine x_getR (b := 64) 8 2 rfl f_8_25 rfl (congrArg Prod.fst (F.1 63 (8, 4) rfl rfl)) (F.2.1 8066 64 rfl rfl) ?_
  refine x_iloadn (x := 0) rfl rfl ?_
  refine x_aloadn (x := 63) rfl rfl ?_
  refine y_getI (v := 2) 8 0 rfl f_8_19 rfl (congrArg Prod.fst (F.1 63 (8, 4) rfl rfl)) (F.2.2.1 8064 2 rfl rfl) ?_
  refine y_imul (v := 0) rfl (by decide) ?_
  refine x_iloadn (x := 1) rfl rfl ?_
  refine y_iadd (v := 1) rfl (by decide) ?_
  refine x_iloadn (x := 0) rfl rfl ?_
  refine y_iast (N := 740) 1 rfl (F.1 64 (100, 740) rfl rfl) rfl (jinb_of (by decide)) (by decide) ?_
  refine x_vret rfl rfl ?_
  show jX m_X8_add 98 0 0 42 [(7, .int 0), (0, .ref 63), (1, .int 3), (2, .int 0), (3, .int 0), (4, .int 0), (5, .int 0), (6, .int 0)] [] _ 0 0 _
  refine x_aloadn (x := 63) rfl rfl ?_
  refine x_iload (x := 0) rfl rfl ?_
  refine x_iconst (v := 2) rfl ki_2 ?_
  refine x_iloadn (x := 0) rfl rfl ?_
  refine x_inv (N := m_X8_put) (As := [.int 0, .int 2, .int 0]) (b := 63) (st := []) (d' := 97) (mc := 0) (ms := 0) (host := "") 8 rfl t_X8_put ⟨Or.inl q_8_29, i_X8_put.1, i_X8_put.2⟩ ⟨by decide, rfl⟩ (congrArg Prod.fst (F.1 63 (8, 4) rfl rfl)) rfl (by decide) rfl rfl ⟨by decide, by decide⟩ (jC.of rfl k_X8_put rfl ?_)
  show jX m_X8_put 97 0 0 0 [(0, .ref 63), (1, .int 0), (2, .int 2), (3, .int 0)] [] _ 0 0 _
  refine x_iloadn (x := 0) rfl rfl ?_
  refine x_iflt (tgt := 38) rfl rfl (br_f (by decide) ?_)
  refine x_iloadn (x := 0) rfl rfl ?_
  refine x_aloadn (x := 63) rfl rfl ?_
  refine y_getI (v := 1) 8 3 rfl f_8_7 rfl (congrArg Prod.fst (F.1 63 (8, 4) rfl rfl)) rfl ?_
  refine x_icge (tgt := 38) rfl rfl (br_f (by decide) ?_)
  refine x_iloadn (x := 2) rfl rfl ?_
  refine x_iflt (tgt := 38) rfl rfl (br_f (by decide) ?_)
  refine x_iloadn (x := 2) rfl rfl ?_
  refine x_aloadn (x := 63) rfl rfl ?_
  refine y_getI (v := 2) 8 0 rfl f_8_19 rfl (congrArg Prod.fst (F.1 63 (8, 4) rfl rfl)) (F.2.2.1 8064 2 rfl rfl) ?_
  refine x_icge (tgt := 38) rfl rfl (br_t (by decide) ?_)
  refine x_vret rfl rfl ?_
  show jX m_X8_add 98 0 0 50 [(7, .int 0), (0, .ref 63), (1, .int 3), (2, .int 0), (3, .int 0), (4, .int 0), (5, .int 0), (6, .int 0)] [] _ 0 0 _
  refine x_aloadn (x := 63) rfl rfl ?_
  refine x_iload (x := 0) rfl rfl ?_
  refine x_iconst (v := 3) rfl ki_3 ?_
  refine x_iload (x := 0) rfl rfl ?_
  refine x_inv (N := m_X8_put) (As := [.int 0, .int 3, .int 0]) (b := 63) (st := []) (d' := 97) (mc := 0) (ms := 0) (host := "") 8 rfl t_X8_put ⟨Or.inl q_8_29, i_X8_put.1, i_X8_put.2⟩ ⟨by decide, rfl⟩ (congrArg Prod.fst (F.1 63 (8, 4) rfl rfl)) rfl (by decide) rfl rfl ⟨by decide, by decide⟩ (jC.of rfl k_X8_put rfl ?_)
  show jX m_X8_put 97 0 0 0 [(0, .ref 63), (1, .int 0), (2, .int 3), (3, .int 0)] [] _ 0 0 _
  refine x_iloadn (x := 0) rfl rfl ?_
  refine x_iflt (tgt := 38) rfl rfl (br_f (by decide) ?_)
  refine x_iloadn (x := 0) rfl rfl ?_
  refine x_aloadn (x := 63) rfl rfl ?_
  refine y_getI (v := 1) 8 3 rfl f_8_7 rfl (congrArg Prod.fst (F.1 63 (8, 4) rfl rfl)) rfl ?_
  refine x_icge (tgt := 38) rfl rfl (br_f (by decide) ?_)
  refine x_iloadn (x := 3) rfl rfl ?_
  refine x_iflt (tgt := 38) rfl rfl (br_f (by decide) ?_)
  refine x_iloadn (x := 3) rfl rfl ?_
  refine x_aloadn (x := 63) rfl rfl ?_
  refine y_getI (v := 2) 8 0 rfl f_8_19 rfl (congrArg Prod.fst (F.1 63 (8, 4) rfl rfl)) (F.2.2.1 8064 2 rfl rfl) ?_
  refine x_icge (tgt := 38) rfl rfl (br_t (by decide) ?_)
  refine x_vret rfl rfl ?_
  show jX m_X8_add 98 0 0 59 [(7, .int 0), (0, .ref 63), (1, .int 3), (2, .int 0), (3, .int 0), (4, .int 0), (5, .int 0), (6, .int 0)] [] _ 0 0 _
  refine x_aloadn (x := 63) rfl rfl ?_
  refine x_iload (x := 0) rfl rfl ?_
  refine x_iconst (v := 4) rfl ki_4 ?_
  refine x_iload (x := 0) rfl rfl ?_
  refine x_inv (N := m_X8_put) (As := [.int 0, .int 4, .int 0]) (b := 63) (st := []) (d' := 97) (mc := 0) (ms := 0) (host := "") 8 rfl t_X8_put ⟨Or.inl q_8_29, i_X8_put.1, i_X8_put.2⟩ ⟨by decide, rfl⟩ (congrArg Prod.fst (F.1 63 (8, 4) rfl rfl)) rfl (by decide) rfl rfl ⟨by decide, by decide⟩ (jC.of rfl k_X8_put rfl ?_)
  show jX m_X8_put 97 0 0 0 [(0, .ref 63), (1, .int 0), (2, .int 4), (3, .int 0)] [] _ 0 0 _
  refine x_iloadn (x := 0) rfl rfl ?_
  refine x_iflt (tgt := 38) rfl rfl (br_f (by decide) ?_)
  refine x_iloadn (x := 0) rfl rfl ?_
  refine x_aloadn (x := 63) rfl rfl ?_
  refine y_getI (v := 1) 8 3 rfl f_8_7 rfl (congrArg Prod.fst (F.1 63 (8, 4) rfl rfl)) rfl ?_
  refine x_icge (tgt := 38) rfl rfl (br_f (by decide) ?_)
  refine x_iloadn (x := 4) rfl rfl ?_
  refine x_iflt (tgt := 38) rfl rfl (br_f (by decide) ?_)
  refine x_iloadn (x := 4) rfl rfl ?_
  refine x_aloadn (x := 63) rfl rfl ?_
  refine y_getI (v := 2) 8 0 rfl f_8_19 rfl (congrArg Prod.fst (F.1 63 (8, 4) rfl rfl)) (F.2.2.1 8064 2 rfl rfl) ?_
  refine x_icge (tgt := 38) rfl rfl (br_t (by decide) ?_)
  refine x_vret rfl rfl ?_
  show jX m_X8_add 98 0 0 68 [(7, .int 0), (0, .ref 63), (1, .int 3), (2, .int 0), (3, .int 0), (4, .int 0), (5, .int 0), (6, .int 0)] [] _ 0 0 _
  refine x_aloadn (x := 63) rfl rfl ?_
  refine x_iload (x := 0) rfl rfl ?_
  refine x_iconst (v := 5) rfl ki_5 ?_
  refine x_iload (x := 0) rfl rfl ?_
  refine x_inv (N := m_X8_put) (As := [.int 0, .int 5, .int 0]) (b := 63) (st := []) (d' := 97) (mc := 0) (ms := 0) (host := "") 8 rfl t_X8_put ⟨Or.inl q_8_29, i_X8_put.1, i_X8_put.2⟩ ⟨by decide, rfl⟩ (congrArg Prod.fst (F.1 63 (8, 4) rfl rfl)) rfl (by decide) rfl rfl ⟨by decide, by decide⟩ (jC.of rfl k_X8_put rfl ?_)
  show jX m_X8_put 97 0 0 0 [(0, .ref 63), (1, .int 0), (2, .int 5), (3, .int 0)] [] _ 0 0 _
  refine x_iloadn (x := 0) rfl rfl ?_
  refine x_iflt (tgt := 38) rfl rfl (br_f (by decide) ?_)
  refine x_iloadn (x := 0) rfl rfl ?_
  refine x_aloadn (x := 63) rfl rfl ?_
  refine y_getI (v := 1) 8 3 rfl f_8_7 rfl (congrArg Prod.fst (F.1 63 (8, 4) rfl rfl)) rfl ?_
  refine x_icge (tgt := 38) rfl rfl (br_f (by decide) ?_)
  refine x_iloadn (x := 5) rfl rfl ?_
  refine x_iflt (tgt := 38) rfl rfl (br_f (by decide) ?_)
  refine x_iloadn (x := 5) rfl rfl ?_
  refine x_aloadn (x := 63) rfl rfl ?_
  refine y_getI (v := 2) 8 0 rfl f_8_19 rfl (congrArg Prod.fst (F.1 63 (8, 4) rfl rfl)) (F.2.2.1 8064 2 rfl rfl) ?_
  refine x_icge (tgt := 38) rfl rfl (br_t (by decide) ?_)
  refine x_vret rfl rfl ?_
  show jX m_X8_add 98 0 0 77 [(7, .int 0), (0, .ref 63), (1, .int 3), (2, .int 0), (3, .int 0), (4, .int 0), (5, .int 0), (6, .int 0)] [] _ 0 0 _
  refine x_vret rfl rfl ?_
  show jX m_X11_addHolding 99 0 0 47 [(6, .int 0), (0, .ref 31), (1, .int (-1)), (2, .int 0), (3, .int 0), (4, .int 0), (5, .int 0)] [] _ 0 0 _
  refine x_iload (x := 0) rfl rfl ?_
  refine x_iret rfl rfl ?_
  show jX m_X11_holding 100 0 0 30 [(0, .ref 31)] [.int 0, .ref 31] _ 0 0 _
  refine x_inv (N := m_X11_accept) (As := [.int 0]) (b := 31) (st := []) (d' := 99) (mc := 0) (ms := 0) (host := "") 11 rfl t_X11_accept ⟨Or.inl q_11_165, i_X11_accept.1, i_X11_accept.2⟩ ⟨by decide, rfl⟩ (congrArg Prod.fst (F.1 31 (11, 13) rfl rfl)) rfl (by decide) rfl rfl ⟨by decide, by decide⟩ (jC.of rfl k_X11_accept rfl ?_)
  show jX m_X11_accept 99 0 0 0 [(0, .ref 31), (1, .int 0)] [] _ 0 0 _
  refine x_aloadn (x := 31) rfl rfl ?_
  refine x_iconst (v := 0) rfl ki_0 ?_
  refine x_putI 11 12 rfl f_11_94 rfl (jfin_no TX11 RX11 13 rfl rfl) (congrArg Prod.fst (F.1 31 (11, 13) rfl rfl)) rfl ?_
  refine x_aloadn (x := 31) rfl rfl ?_
  refine x_getR (b := 32) 11 0 rfl f_11_10 rfl (congrArg Prod.fst (F.1 31 (11, 13) rfl rfl)) (F.2.1 3968 32 rfl rfl) ?_
  refine x_dup rfl rfl ?_
  refine y_getI (v := 1) 1 19 rfl f_11_528 rfl (congrArg Prod.fst (F.1 32 (1, 20) rfl rfl)) (F.2.2.1 4115 1 rfl rfl) ?_
  refine x_iconst (v := 1) rfl ki_1 ?_
  refine y_iadd (v := 2) rfl (by decide) ?_
  refine x_putI 1 19 rfl f_11_528 rfl (jfin_no TX1 RX1 20 rfl rfl) (congrArg Prod.fst (F.1 32 (1, 20) rfl rfl)) rfl ?_
  refine x_iloadn (x := 0) rfl rfl ?_
  refine x_iret rfl rfl ?_
  show jX m_X11_holding 100 0 0 33 [(0, .ref 31)] [.int 0] _ 0 0 _
  refine x_iret rfl rfl ?_
  exact jqe (show sp_holding = 0 by unfold sp_holding; (repeat' split) <;> first | rfl | (exfalso; omega)) (hQ _ (by repeat (first | exact FM | refine jFb_si rfl ?_ | refine jFb_sl rfl ?_ | refine jFb_ci rfl ?_ | refine jFb_cl rfl ?_ | refine jFb_sr rfl ?_)) (by repeat (first | exact O | refine jOl_si rfl ?_ | refine jOl_sl rfl ?_ | refine jOl_ci rfl ?_ | refine jOl_cl rfl ?_ | refine jOl_sr rfl ?_)))
set_option maxRecDepth 100000 in
set_option maxHeartbeats 40000000 in
theorem pm_holding {xs : Nat → Int32} {h : jH} {Q : Option Value → jH → Prop} (F : jFb 125 h) (O : jOl 7 xs h) (hQ : ∀ h', jOl 7 xs h' → Q (some (.int (sp_holding))) h') : jC m_X12_holding 100 0 0 [.ref 125] h Q := by
  refine jC.of rfl k_X12_holding rfl ?_
  show jX m_X12_holding 100 0 0 0 [(0, .ref 125)] [] _ 0 0 _
  refine x_aloadn (x := 125) rfl rfl ?_
  refine x_iconst (v := 0) rfl ki_0 ?_
  refine x_putI 12 0 rfl f_12_180 rfl (jfin_no TX12 RX12 92 rfl rfl) (congrArg Prod.fst (F.1 125 (12, 92) rfl rfl)) rfl ?_
  refine x_aloadn (x := 125) rfl rfl ?_
  refine x_getR (b := 126) 12 2 rfl f_12_8 rfl (congrArg Prod.fst (F.1 125 (12, 92) rfl rfl)) (F.2.1 16002 126 rfl rfl) ?_
  refine x_bipush (v := 7) rfl kb_7 ?_
  refine y_iald (v := 0) (N := 50660) 7 rfl (F.1 126 (100, 50660) rfl rfl) (jinb_of (by decide)) (by decide) (F.2.2.2.1 126 rfl rfl 7).1 ?_
  refine x_bipush (v := 40) rfl kb_40 ?_
  refine x_icne (tgt := 24) rfl rfl (bn_t (by decide) ?_)
  refine x_aloadn (x := 125) rfl rfl ?_
  refine x_getR (b := 126) 12 2 rfl f_12_8 rfl (congrArg Prod.fst (F.1 125 (12, 92) rfl rfl)) (F.2.1 16002 126 rfl rfl) ?_
  refine x_bipush (v := 7) rfl kb_7 ?_
  refine x_dup2 rfl rfl rfl ?_
  refine y_iald (v := 0) (N := 50660) 7 rfl (F.1 126 (100, 50660) rfl rfl) (jinb_of (by decide)) (by decide) (F.2.2.2.1 126 rfl rfl 7).1 ?_
  refine x_iconst (v := 1) rfl ki_1 ?_
  refine y_iadd (v := 1) rfl (by decide) ?_
  refine y_iast (N := 50660) 7 rfl (F.1 126 (100, 50660) rfl rfl) rfl (jinb_of (by decide)) (by decide) ?_
  refine x_aloadn (x := 125) rfl rfl ?_
  refine x_iconst (v := 3) rfl ki_3 ?_
  refine x_aloadn (x := 125) rfl rfl ?_
  refine x_getR (b := 126) 12 2 rfl f_12_8 rfl (congrArg Prod.fst (F.1 125 (12, 92) rfl rfl)) (F.2.1 16002 126 rfl rfl) ?_
  refine x_bipush (v := 7) rfl kb_7 ?_
  refine y_iald (v := 1) (N := 50660) 7 rfl (F.1 126 (100, 50660) rfl rfl) (jinb_of (by decide)) (by decide) rfl ?_
  refine x_iconst (v := 1) rfl ki_1 ?_
  refine y_isub (v := 0) rfl (by decide) ?_
  refine x_inv (N := m_X12_thing) (As := [.int 3, .int 0]) (b := 125) (st := []) (d' := 99) (mc := 0) (ms := 0) (host := "") 12 rfl t_X12_thing ⟨Or.inl q_12_289, i_X12_thing.1, i_X12_thing.2⟩ ⟨by decide, rfl⟩ (congrArg Prod.fst (F.1 125 (12, 92) rfl rfl)) rfl (by decide) rfl rfl ⟨by decide, by decide⟩ (jC.of rfl k_X12_thing rfl ?_)
  show jX m_X12_thing 99 0 0 0 [(0, .ref 125), (1, .int 3), (2, .int 0)] [] _ 0 0 _
  refine x_ldc (v := 49920) rfl z_12_194 ?_
  refine x_iconst (v := 2) rfl ki_2 ?_
  refine x_aloadn (x := 125) rfl rfl ?_
  refine x_getR (b := 126) 12 2 rfl f_12_8 rfl (congrArg Prod.fst (F.1 125 (12, 92) rfl rfl)) (F.2.1 16002 126 rfl rfl) ?_
  refine x_bipush (v := 16) rfl kb_16 ?_
  refine y_iald (v := 0) (N := 50660) 16 rfl (F.1 126 (100, 50660) rfl rfl) (jinb_of (by decide)) (by decide) (F.2.2.2.1 126 rfl rfl 16).1 ?_
  refine y_imul (v := 0) rfl (by decide) ?_
  refine y_iadd (v := 49920) rfl (by decide) ?_
  refine x_istoren (ls' := [(3, .int 49920), (0, .ref 125), (1, .int 3), (2, .int 0)]) rfl rfl rfl ?_
  refine x_aloadn (x := 125) rfl rfl ?_
  refine x_getR (b := 126) 12 2 rfl f_12_8 rfl (congrArg Prod.fst (F.1 125 (12, 92) rfl rfl)) (F.2.1 16002 126 rfl rfl) ?_
  refine x_iloadn (x := 49920) rfl rfl ?_
  refine x_iloadn (x := 3) rfl rfl ?_
  refine y_iast (N := 50660) 49920 rfl (F.1 126 (100, 50660) rfl rfl) rfl (jinb_of (by decide)) (by decide) ?_
  refine x_aloadn (x := 125) rfl rfl ?_
  refine x_getR (b := 126) 12 2 rfl f_12_8 rfl (congrArg Prod.fst (F.1 125 (12, 92) rfl rfl)) (F.2.1 16002 126 rfl rfl) ?_
  refine x_iloadn (x := 49920) rfl rfl ?_
  refine x_iconst (v := 1) rfl ki_1 ?_
  refine y_iadd (v := 49921) rfl (by decide) ?_
  refine x_iloadn (x := 0) rfl rfl ?_
  refine y_iast (N := 50660) 49921 rfl (F.1 126 (100, 50660) rfl rfl) rfl (jinb_of (by decide)) (by decide) ?_
  refine x_aloadn (x := 125) rfl rfl ?_
  refine x_getR (b := 126) 12 2 rfl f_12_8 rfl (congrArg Prod.fst (F.1 125 (12, 92) rfl rfl)) (F.2.1 16002 126 rfl rfl) ?_
  refine x_bipush (v := 16) rfl kb_16 ?_
  refine x_dup2 rfl rfl rfl ?_
  refine y_iald (v := 0) (N := 50660) 16 rfl (F.1 126 (100, 50660) rfl rfl) (jinb_of (by decide)) (by decide) (F.2.2.2.1 126 rfl rfl 16).1 ?_
  refine x_iconst (v := 1) rfl ki_1 ?_
  refine y_iadd (v := 1) rfl (by decide) ?_
  refine y_iast (N := 50660) 16 rfl (F.1 126 (100, 50660) rfl rfl) rfl (jinb_of (by decide)) (by decide) ?_
  refine x_vret rfl rfl ?_
  show jX m_X12_holding 100 0 0 49 [(0, .ref 125)] [] _ 0 0 _
  refine x_aloadn (x := 125) rfl rfl ?_
  refine x_aloadn (x := 125) rfl rfl ?_
  refine x_getR (b := 126) 12 2 rfl f_12_8 rfl (congrArg Prod.fst (F.1 125 (12, 92) rfl rfl)) (F.2.1 16002 126 rfl rfl) ?_
  refine x_bipush (v := 7) rfl kb_7 ?_
  refine y_iald (v := 1) (N := 50660) 7 rfl (F.1 126 (100, 50660) rfl rfl) (jinb_of (by decide)) (by decide) rfl ?_
  refine x_iconst (v := 1) rfl ki_1 ?_
  refine y_isub (v := 0) rfl (by decide) ?_
  refine x_inv (N := m_X12_told) (As := [.int 0]) (b := 125) (st := []) (d' := 99) (mc := 0) (ms := 0) (host := "") 12 rfl t_X12_told ⟨Or.inl q_12_197, i_X12_told.1, i_X12_told.2⟩ ⟨by decide, rfl⟩ (congrArg Prod.fst (F.1 125 (12, 92) rfl rfl)) rfl (by decide) rfl rfl ⟨by decide, by decide⟩ (jC.of rfl k_X12_told rfl ?_)
  show jX m_X12_told 99 0 0 0 [(0, .ref 125), (1, .int 0)] [] _ 0 0 _
  refine x_aloadn (x := 125) rfl rfl ?_
  refine x_iloadn (x := 0) rfl rfl ?_
  refine x_ifge (tgt := 9) rfl rfl (br_t (by decide) ?_)
  refine x_iconst (v := 0) rfl ki_0 ?_
  refine x_putI 12 1 rfl f_12_183 rfl (jfin_no TX12 RX12 92 rfl rfl) (congrArg Prod.fst (F.1 125 (12, 92) rfl rfl)) rfl ?_
  refine x_iloadn (x := 0) rfl rfl ?_
  refine x_iret rfl rfl ?_
  show jX m_X12_holding 100 0 0 62 [(0, .ref 125)] [.int 0] _ 0 0 _
  refine x_iret rfl rfl ?_
  exact jqe (show sp_holding = 0 by unfold sp_holding; (repeat' split) <;> first | rfl | (exfalso; omega)) (hQ _ (by repeat (first | exact O | refine jOl_si rfl ?_ | refine jOl_sl rfl ?_ | refine jOl_ci rfl ?_ | refine jOl_cl rfl ?_ | refine jOl_sr rfl ?_)))
def sp_value (a1 a2 a3 a4 : Int32) : Int32 := if (0 ≤ a2.toInt ∧ a2.toInt ≤ 10000) ∧ (0 ≤ a3.toInt ∧ a3.toInt ≤ 146399) ∧ (0 ≤ a4.toInt ∧ a4.toInt ≤ 146399) then (-2) else (-1)
set_option maxRecDepth 100000 in
set_option maxHeartbeats 40000000 in
theorem px_value (a1 a2 a3 a4 : Int32) {xs : Nat → Int32} {h : jH} {Q : Option Value → jH → Prop} (F : jFb 31 h) (O : jOl 7 xs h) (hQ : ∀ h', jFb 125 h' → jOl 7 xs h' → Q (some (.int (sp_value a1 a2 a3 a4))) h') : jC m_X11_value 100 0 0 [.ref 31, .int a1, .int a2, .int a3, .int a4] h Q := by
  have FM := jFb_up 125 rfl F
  refine jC.of rfl k_X11_value rfl ?_
  show jX m_X11_value 100 0 0 0 [(0, .ref 31), (1, .int a1), (2, .int a2), (3, .int a3), (4, .int a4)] [] _ 0 0 _
  refine x_iloadn (x := a2) rfl rfl ?_
  refine x_iflt (tgt := 26) rfl rfl (ti_lt (show (a2 : Int32).toInt = a2.toInt from rfl) (show (0 : Int32).toInt = 0 by decide) ⟨fun c1 => ?_, fun c1 => ?_⟩)
  ·
    refine x_aloadn (x := 31) rfl rfl ?_
    refine x_iconst (v := (-1)) rfl ki_m1 ?_
    refine x_inv (N := m_X11_refuse) (As := [.int (-1)]) (b := 31) (st := []) (d' := 99) (mc := 0) (ms := 0) (host := "") 11 rfl t_X11_refuse ⟨Or.inl q_11_206, i_X11_refuse.1, i_X11_refuse.2⟩ ⟨by decide, rfl⟩ (congrArg Prod.fst (F.1 31 (11, 13) rfl rfl)) rfl (by decide) rfl rfl ⟨by decide, by decide⟩ (jC.of rfl k_X11_refuse rfl ?_)
    show jX m_X11_refuse 99 0 0 0 [(0, .ref 31), (1, .int (-1))] [] _ 0 0 _
    refine x_aloadn (x := 31) rfl rfl ?_
    refine x_iloadn (x := (-1)) rfl rfl ?_
    refine x_putI 11 12 rfl f_11_94 rfl (jfin_no TX11 RX11 13 rfl rfl) (congrArg Prod.fst (F.1 31 (11, 13) rfl rfl)) rfl ?_
    refine x_iloadn (x := (-1)) rfl rfl ?_
    refine x_iret rfl rfl ?_
    show jX m_X11_value 100 0 0 31 [(0, .ref 31), (1, .int a1), (2, .int a2), (3, .int a3), (4, .int a4)] [.int (-1)] _ 0 0 _
    refine x_iret rfl rfl ?_
    exact jqe (show sp_value a1 a2 a3 a4 = (-1) by unfold sp_value; (repeat' split) <;> first | rfl | (exfalso; omega)) (hQ _ (by repeat (first | exact FM | refine jFb_si rfl ?_ | refine jFb_sl rfl ?_ | refine jFb_ci rfl ?_ | refine jFb_cl rfl ?_ | refine jFb_sr rfl ?_)) (by repeat (first | exact O | refine jOl_si rfl ?_ | refine jOl_sl rfl ?_ | refine jOl_ci rfl ?_ | refine jOl_cl rfl ?_ | refine jOl_sr rfl ?_)))
  ·
    refine x_iloadn (x := a2) rfl rfl ?_
    refine x_sipush (v := 10000) rfl ks_10000 ?_
    refine x_icgt (tgt := 26) rfl rfl (ti_gt (show (a2 : Int32).toInt = a2.toInt from rfl) (show (10000 : Int32).toInt = 10000 by decide) ⟨fun c2 => ?_, fun c2 => ?_⟩)
    ·
      refine x_aloadn (x := 31) rfl rfl ?_
      refine x_iconst (v := (-1)) rfl ki_m1 ?_
      refine x_inv (N := m_X11_refuse) (As := [.int (-1)]) (b := 31) (st := []) (d' := 99) (mc := 0) (ms := 0) (host := "") 11 rfl t_X11_refuse ⟨Or.inl q_11_206, i_X11_refuse.1, i_X11_refuse.2⟩ ⟨by decide, rfl⟩ (congrArg Prod.fst (F.1 31 (11, 13) rfl rfl)) rfl (by decide) rfl rfl ⟨by decide, by decide⟩ (jC.of rfl k_X11_refuse rfl ?_)
      show jX m_X11_refuse 99 0 0 0 [(0, .ref 31), (1, .int (-1))] [] _ 0 0 _
      refine x_aloadn (x := 31) rfl rfl ?_
      refine x_iloadn (x := (-1)) rfl rfl ?_
      refine x_putI 11 12 rfl f_11_94 rfl (jfin_no TX11 RX11 13 rfl rfl) (congrArg Prod.fst (F.1 31 (11, 13) rfl rfl)) rfl ?_
      refine x_iloadn (x := (-1)) rfl rfl ?_
      refine x_iret rfl rfl ?_
      show jX m_X11_value 100 0 0 31 [(0, .ref 31), (1, .int a1), (2, .int a2), (3, .int a3), (4, .int a4)] [.int (-1)] _ 0 0 _
      refine x_iret rfl rfl ?_
      exact jqe (show sp_value a1 a2 a3 a4 = (-1) by unfold sp_value; (repeat' split) <;> first | rfl | (exfalso; omega)) (hQ _ (by repeat (first | exact FM | refine jFb_si rfl ?_ | refine jFb_sl rfl ?_ | refine jFb_ci rfl ?_ | refine jFb_cl rfl ?_ | refine jFb_sr rfl ?_)) (by repeat (first | exact O | refine jOl_si rfl ?_ | refine jOl_sl rfl ?_ | refine jOl_ci rfl ?_ | refine jOl_cl rfl ?_ | refine jOl_sr rfl ?_)))
    ·
      refine x_iloadn (x := a3) rfl rfl ?_
      refine x_inst (N := m_X11_isDay) (As := [.int a3]) (st := []) (d' := 99) (mc := 0) (ms := 0) (host := "") rfl t_X11_isDay ⟨Or.inl q_11_115, s_X11_isDay⟩ rfl (by decide) rfl rfl ⟨by decide, by decide⟩ (c_X11_isDay (x := a3) ?_)
      show jX m_X11_value 100 0 0 15 [(0, .ref 31), (1, .int a1), (2, .int a2), (3, .int a3), (4, .int a4)] [.int (jp (0 ≤ a3.toInt ∧ a3.toInt ≤ 146399))] _ 0 0 _
      refine x_ifeq (tgt := 26) rfl rfl (jpe ⟨fun c3 => ?_, fun c3 => ?_⟩)
      ·
        refine x_aloadn (x := 31) rfl rfl ?_
        refine x_iconst (v := (-1)) rfl ki_m1 ?_
        refine x_inv (N := m_X11_refuse) (As := [.int (-1)]) (b := 31) (st := []) (d' := 99) (mc := 0) (ms := 0) (host := "") 11 rfl t_X11_refuse ⟨Or.inl q_11_206, i_X11_refuse.1, i_X11_refuse.2⟩ ⟨by decide, rfl⟩ (congrArg Prod.fst (F.1 31 (11, 13) rfl rfl)) rfl (by decide) rfl rfl ⟨by decide, by decide⟩ (jC.of rfl k_X11_refuse rfl ?_)
        show jX m_X11_refuse 99 0 0 0 [(0, .ref 31), (1, .int (-1))] [] _ 0 0 _
        refine x_aloadn (x := 31) rfl rfl ?_
        refine x_iloadn (x := (-1)) rfl rfl ?_
        refine x_putI 11 12 rfl f_11_94 rfl (jfin_no TX11 RX11 13 rfl rfl) (congrArg Prod.fst (F.1 31 (11, 13) rfl rfl)) rfl ?_
        refine x_iloadn (x := (-1)) rfl rfl ?_
        refine x_iret rfl rfl ?_
        show jX m_X11_value 100 0 0 31 [(0, .ref 31), (1, .int a1), (2, .int a2), (3, .int a3), (4, .int a4)] [.int (-1)] _ 0 0 _
        refine x_iret rfl rfl ?_
        exact jqe (show sp_value a1 a2 a3 a4 = (-1) by unfold sp_value; (repeat' split) <;> first | rfl | (exfalso; omega)) (hQ _ (by repeat (first | exact FM | refine jFb_si rfl ?_ | refine jFb_sl rfl ?_ | refine jFb_ci rfl ?_ | refine jFb_cl rfl ?_ | refine jFb_sr rfl ?_)) (by repeat (first | exact O | refine jOl_si rfl ?_ | refine jOl_sl rfl ?_ | refine jOl_ci rfl ?_ | refine jOl_cl rfl ?_ | refine jOl_sr rfl ?_)))
      ·
        refine x_iload (x := a4) rfl rfl ?_
        refine x_inst (N := m_X11_isDay) (As := [.int a4]) (st := []) (d' := 99) (mc := 0) (ms := 0) (host := "") rfl t_X11_isDay ⟨Or.inl q_11_115, s_X11_isDay⟩ rfl (by decide) rfl rfl ⟨by decide, by decide⟩ (c_X11_isDay (x := a4) ?_)
        show jX m_X11_value 100 0 0 23 [(0, .ref 31), (1, .int a1), (2, .int a2), (3, .int a3), (4, .int a4)] [.int (jp (0 ≤ a4.toInt ∧ a4.toInt ≤ 146399))] _ 0 0 _
        refine x_ifne (tgt := 32) rfl rfl (jpn ⟨fun c4 => ?_, fun c4 => ?_⟩)
        ·
          refine x_aloadn (x := 31) rfl rfl ?_
          refine x_iloadn (x := a1) rfl rfl ?_
          refine x_inv (N := m_X11_isHolding) (As := [.int a1]) (b := 31) (st := []) (d' := 99) (mc := 0) (ms := 0) (host := "") 11 rfl t_X11_isHolding ⟨Or.inl q_11_415, i_X11_isHolding.1, i_X11_isHolding.2⟩ ⟨by decide, rfl⟩ (congrArg Prod.fst (F.1 31 (11, 13) rfl rfl)) rfl (by decide) rfl rfl ⟨by decide, by decide⟩ (jC.of rfl k_X11_isHolding rfl ?_)
          show jX m_X11_isHolding 99 0 0 0 [(0, .ref 31), (1, .int a1)] [] _ 0 0 _
          refine x_iloadn (x := a1) rfl rfl ?_
          refine x_iflt (tgt := 28) rfl rfl (ti_lt (show (a1 : Int32).toInt = a1.toInt from rfl) (show (0 : Int32).toInt = 0 by decide) ⟨fun c5 => ?_, fun c5 => ?_⟩)
          ·
            refine x_iconst (v := 0) rfl ki_0 ?_
            refine x_zret rfl rfl (by first | decide | exact jp_01 _) ?_
            show jX m_X11_value 100 0 0 37 [(0, .ref 31), (1, .int a1), (2, .int a2), (3, .int a3), (4, .int a4)] [.int 0] _ 0 0 _
            refine x_ifne (tgt := 47) rfl rfl (bn_f (by decide) ?_)
            refine x_aloadn (x := 31) rfl rfl ?_
            refine x_bipush (v := (-2)) rfl kb_m2 ?_
            refine x_inv (N := m_X11_refuse) (As := [.int (-2)]) (b := 31) (st := []) (d' := 99) (mc := 0) (ms := 0) (host := "") 11 rfl t_X11_refuse ⟨Or.inl q_11_206, i_X11_refuse.1, i_X11_refuse.2⟩ ⟨by decide, rfl⟩ (congrArg Prod.fst (F.1 31 (11, 13) rfl rfl)) rfl (by decide) rfl rfl ⟨by decide, by decide⟩ (jC.of rfl k_X11_refuse rfl ?_)
            show jX m_X11_refuse 99 0 0 0 [(0, .ref 31), (1, .int (-2))] [] _ 0 0 _
            refine x_aloadn (x := 31) rfl rfl ?_
            refine x_iloadn (x := (-2)) rfl rfl ?_
            refine x_putI 11 12 rfl f_11_94 rfl (jfin_no TX11 RX11 13 rfl rfl) (congrArg Prod.fst (F.1 31 (11, 13) rfl rfl)) rfl ?_
            refine x_iloadn (x := (-2)) rfl rfl ?_
            refine x_iret rfl rfl ?_
            show jX m_X11_value 100 0 0 46 [(0, .ref 31), (1, .int a1), (2, .int a2), (3, .int a3), (4, .int a4)] [.int (-2)] _ 0 0 _
            refine x_iret rfl rfl ?_
            exact jqe (show sp_value a1 a2 a3 a4 = (-2) by unfold sp_value; (repeat' split) <;> first | rfl | (exfalso; omega)) (hQ _ (by repeat (first | exact FM | refine jFb_si rfl ?_ | refine jFb_sl rfl ?_ | refine jFb_ci rfl ?_ | refine jFb_cl rfl ?_ | refine jFb_sr rfl ?_)) (by repeat (first | exact O | refine jOl_si rfl ?_ | refine jOl_sl rfl ?_ | refine jOl_ci rfl ?_ | refine jOl_cl rfl ?_ | refine jOl_sr rfl ?_)))
          ·
            refine x_iloadn (x := a1) rfl rfl ?_
            refine x_aloadn (x := 31) rfl rfl ?_
            refine x_getR (b := 32) 11 0 rfl f_11_10 rfl (congrArg Prod.fst (F.1 31 (11, 13) rfl rfl)) (F.2.1 3968 32 rfl rfl) ?_
            refine x_getR (b := 49) 1 8 rfl f_11_408 rfl (congrArg Prod.fst (F.1 32 (1, 20) rfl rfl)) (F.2.1 4104 49 rfl rfl) ?_
            refine y_getI (v := 0) 8 3 rfl f_11_142 rfl (congrArg Prod.fst (F.1 49 (8, 4) rfl rfl)) (F.2.2.1 6275 0 rfl rfl) ?_
            refine x_icge (tgt := 28) rfl rfl (ti_ge (show (a1 : Int32).toInt = a1.toInt from rfl) (show (0 : Int32).toInt = 0 by decide) ⟨fun c6 => ?_, fun c6 => ?_⟩)
            ·
              refine x_iconst (v := 0) rfl ki_0 ?_
              refine x_zret rfl rfl (by first | decide | exact jp_01 _) ?_
              show jX m_X11_value 100 0 0 37 [(0, .ref 31), (1, .int a1), (2, .int a2), (3, .int a3), (4, .int a4)] [.int 0] _ 0 0 _
              refine x_ifne (tgt := 47) rfl rfl (bn_f (by decide) ?_)
              refine x_aloadn (x := 31) rfl rfl ?_
              refine x_bipush (v := (-2)) rfl kb_m2 ?_
              refine x_inv (N := m_X11_refuse) (As := [.int (-2)]) (b := 31) (st := []) (d' := 99) (mc := 0) (ms := 0) (host := "") 11 rfl t_X11_refuse ⟨Or.inl q_11_206, i_X11_refuse.1, i_X11_refuse.2⟩ ⟨by decide, rfl⟩ (congrArg Prod.fst (F.1 31 (11, 13) rfl rfl)) rfl (by decide) rfl rfl ⟨by decide, by decide⟩ (jC.of rfl k_X11_refuse rfl ?_)
              show jX m_X11_refuse 99 0 0 0 [(0, .ref 31), (1, .int (-2))] [] _ 0 0 _
              refine x_aloadn (x := 31) rfl rfl ?_
              refine x_iloadn (x := (-2)) rfl rfl ?_
              refine x_putI 11 12 rfl f_11_94 rfl (jfin_no TX11 RX11 13 rfl rfl) (congrArg Prod.fst (F.1 31 (11, 13) rfl rfl)) rfl ?_
              refine x_iloadn (x := (-2)) rfl rfl ?_
              refine x_iret rfl rfl ?_
              show jX m_X11_value 100 0 0 46 [(0, .ref 31), (1, .int a1), (2, .int a2), (3, .int a3), (4, .int a4)] [.int (-2)] _ 0 0 _
              refine x_iret rfl rfl ?_
              exact jqe (show sp_value a1 a2 a3 a4 = (-2) by unfold sp_value; (repeat' split) <;> first | rfl | (exfalso; omega)) (hQ _ (by repeat (first | exact FM | refine jFb_si rfl ?_ | refine jFb_sl rfl ?_ | refine jFb_ci rfl ?_ | refine jFb_cl rfl ?_ | refine jFb_sr rfl ?_)) (by repeat (first | exact O | refine jOl_si rfl ?_ | refine jOl_sl rfl ?_ | refine jOl_ci rfl ?_ | refine jOl_cl rfl ?_ | refine jOl_sr rfl ?_)))
            ·
              refine x_iloadn (x := a1) rfl rfl ?_
              refine x_bipush (v := 40) rfl kb_40 ?_
              refine x_icge (tgt := 28) rfl rfl (ti_ge (show (a1 : Int32).toInt = a1.toInt from rfl) (show (40 : Int32).toInt = 40 by decide) ⟨fun c7 => ?_, fun c7 => ?_⟩)
              ·
                refine x_iconst (v := 0) rfl ki_0 ?_
                refine x_zret rfl rfl (by first | decide | exact jp_01 _) ?_
                show jX m_X11_value 100 0 0 37 [(0, .ref 31), (1, .int a1), (2, .int a2), (3, .int a3), (4, .int a4)] [.int 0] _ 0 0 _
                refine x_ifne (tgt := 47) rfl rfl (bn_f (by decide) ?_)
                refine x_aloadn (x := 31) rfl rfl ?_
                refine x_bipush (v := (-2)) rfl kb_m2 ?_
                refine x_inv (N := m_X11_refuse) (As := [.int (-2)]) (b := 31) (st := []) (d' := 99) (mc := 0) (ms := 0) (host := "") 11 rfl t_X11_refuse ⟨Or.inl q_11_206, i_X11_refuse.1, i_X11_refuse.2⟩ ⟨by decide, rfl⟩ (congrArg Prod.fst (F.1 31 (11, 13) rfl rfl)) rfl (by decide) rfl rfl ⟨by decide, by decide⟩ (jC.of rfl k_X11_refuse rfl ?_)
                show jX m_X11_refuse 99 0 0 0 [(0, .ref 31), (1, .int (-2))] [] _ 0 0 _
                refine x_aloadn (x := 31) rfl rfl ?_
                refine x_iloadn (x := (-2)) rfl rfl ?_
                refine x_putI 11 12 rfl f_11_94 rfl (jfin_no TX11 RX11 13 rfl rfl) (congrArg Prod.fst (F.1 31 (11, 13) rfl rfl)) rfl ?_
                refine x_iloadn (x := (-2)) rfl rfl ?_
                refine x_iret rfl rfl ?_
                show jX m_X11_value 100 0 0 46 [(0, .ref 31), (1, .int a1), (2, .int a2), (3, .int a3), (4, .int a4)] [.int (-2)] _ 0 0 _
                refine x_iret rfl rfl ?_
                exact jqe (show sp_value a1 a2 a3 a4 = (-2) by unfold sp_value; (repeat' split) <;> first | rfl | (exfalso; omega)) (hQ _ (by repeat (first | exact FM | refine jFb_si rfl ?_ | refine jFb_sl rfl ?_ | refine jFb_ci rfl ?_ | refine jFb_cl rfl ?_ | refine jFb_sr rfl ?_)) (by repeat (first | exact O | refine jOl_si rfl ?_ | refine jOl_sl rfl ?_ | refine jOl_ci rfl ?_ | refine jOl_cl rfl ?_ | refine jOl_sr rfl ?_)))
              ·
                refine x_iconst (v := 1) rfl ki_1 ?_
                refine x_goto (tgt := 29) rfl rfl ?_
                refine x_zret rfl rfl (by first | decide | exact jp_01 _) ?_
                show jX m_X11_value 100 0 0 37 [(0, .ref 31), (1, .int a1), (2, .int a2), (3, .int a3), (4, .int a4)] [.int 1] _ 0 0 _
                refine x_ifne (tgt := 47) rfl rfl (bn_t (by decide) ?_)
                refine x_aloadn (x := 31) rfl rfl ?_
                refine x_getR (b := 32) 11 0 rfl f_11_10 rfl (congrArg Prod.fst (F.1 31 (11, 13) rfl rfl)) (F.2.1 3968 32 rfl rfl) ?_
                refine x_getR (b := 49) 1 8 rfl f_11_408 rfl (congrArg Prod.fst (F.1 32 (1, 20) rfl rfl)) (F.2.1 4104 49 rfl rfl) ?_
                refine x_iloadn (x := a1) rfl rfl ?_
                refine x_iconst (v := 2) rfl ki_2 ?_
                refine x_inv (N := m_X8_at) (As := [.int a1, .int 2]) (b := 49) (st := []) (d' := 99) (mc := 0) (ms := 0) (host := "") 8 rfl t_X8_at ⟨Or.inl q_11_171, i_X8_at.1, i_X8_at.2⟩ ⟨by decide, rfl⟩ (congrArg Prod.fst (F.1 49 (8, 4) rfl rfl)) rfl (by decide) rfl rfl ⟨by decide, by decide⟩ (jC.of rfl k_X8_at rfl ?_)
                show jX m_X8_at 99 0 0 0 [(0, .ref 49), (1, .int a1), (2, .int 2)] [] _ 0 0 _
                refine x_iloadn (x := a1) rfl rfl ?_
                refine x_iflt (tgt := 24) rfl rfl (ti_lt (show (a1 : Int32).toInt = a1.toInt from rfl) (show (0 : Int32).toInt = 0 by decide) (br_f c5 ?_))
                refine x_iloadn (x := a1) rfl rfl ?_
                refine x_aloadn (x := 49) rfl rfl ?_
                refine y_getI (v := 0) 8 3 rfl f_8_7 rfl (congrArg Prod.fst (F.1 49 (8, 4) rfl rfl)) (F.2.2.1 6275 0 rfl rfl) ?_
                refine x_icge (tgt := 24) rfl rfl (ti_ge (show (a1 : Int32).toInt = a1.toInt from rfl) (show (0 : Int32).toInt = 0 by decide) (br_f c6 ?_))
                refine x_iloadn (x := 2) rfl rfl ?_
                refine x_iflt (tgt := 24) rfl rfl (br_f (by decide) ?_)
                refine x_iloadn (x := 2) rfl rfl ?_
                refine x_aloadn (x := 49) rfl rfl ?_
                refine y_getI (v := 5) 8 0 rfl f_8_19 rfl (congrArg Prod.fst (F.1 49 (8, 4) rfl rfl)) (F.2.2.1 6272 5 rfl rfl) ?_
                refine x_iclt (tgt := 26) rfl rfl (br_t (by decide) ?_)
                refine x_aloadn (x := 49) rfl rfl ?_
                refine x_getR (b := 50) 8 2 rfl f_8_25 rfl (congrArg Prod.fst (F.1 49 (8, 4) rfl rfl)) (F.2.1 6274 50 rfl rfl) ?_
                refine x_iloadn (x := a1) rfl rfl ?_
                refine x_aloadn (x := 49) rfl rfl ?_
                refine y_getI (v := 5) 8 0 rfl f_8_19 rfl (congrArg Prod.fst (F.1 49 (8, 4) rfl rfl)) (F.2.2.1 6272 5 rfl rfl) ?_
                refine x_imul rfl ?_
                refine x_iloadn (x := 2) rfl rfl ?_
                refine x_iadd rfl ?_
                refine y_iald (v := 0) (N := 200) ((a1 * 5) + 2).toNatClampNeg rfl (F.1 50 (100, 200) rfl rfl) (vpi (by omega)) rfl (F.2.2.2.1 50 rfl rfl _).1 ?_
                refine x_iret rfl rfl ?_
                show jX m_X11_value 100 0 0 59 [(0, .ref 31), (1, .int a1), (2, .int a2), (3, .int a3), (4, .int a4)] [.int 0] _ 0 0 _
                refine x_iconst (v := (-1)) rfl ki_m1 ?_
                refine x_iceq (tgt := 70) rfl rfl (br_f (by decide) ?_)
                refine x_aloadn (x := 31) rfl rfl ?_
                refine x_bipush (v := (-3)) rfl kb_m3 ?_
                refine x_inv (N := m_X11_refuse) (As := [.int (-3)]) (b := 31) (st := []) (d' := 99) (mc := 0) (ms := 0) (host := "") 11 rfl t_X11_refuse ⟨Or.inl q_11_206, i_X11_refuse.1, i_X11_refuse.2⟩ ⟨by decide, rfl⟩ (congrArg Prod.fst (F.1 31 (11, 13) rfl rfl)) rfl (by decide) rfl rfl ⟨by decide, by decide⟩ (jC.of rfl k_X11_refuse rfl ?_)
                show jX m_X11_refuse 99 0 0 0 [(0, .ref 31), (1, .int (-3))] [] _ 0 0 _
                refine x_aloadn (x := 31) rfl rfl ?_
                refine x_iloadn (x := (-3)) rfl rfl ?_
                refine x_putI 11 12 rfl f_11_94 rfl (jfin_no TX11 RX11 13 rfl rfl) (congrArg Prod.fst (F.1 31 (11, 13) rfl rfl)) rfl ?_
                refine x_iloadn (x := (-3)) rfl rfl ?_
                refine x_iret rfl rfl ?_
                show jX m_X11_value 100 0 0 69 [(0, .ref 31), (1, .int a1), (2, .int a2), (3, .int a3), (4, .int a4)] [.int (-3)] _ 0 0 _
                refine x_iret rfl rfl ?_
                exact jqe (show sp_value a1 a2 a3 a4 = (-3) by unfold sp_value; (repeat' split) <;> first | rfl | (exfalso; omega)) (hQ _ (by repeat (first | exact FM | refine jFb_si rfl ?_ | refine jFb_sl rfl ?_ | refine jFb_ci rfl ?_ | refine jFb_cl rfl ?_ | refine jFb_sr rfl ?_)) (by repeat (first | exact O | refine jOl_si rfl ?_ | refine jOl_sl rfl ?_ | refine jOl_ci rfl ?_ | refine jOl_cl rfl ?_ | refine jOl_sr rfl ?_)))
        ·
          refine x_aloadn (x := 31) rfl rfl ?_
          refine x_iconst (v := (-1)) rfl ki_m1 ?_
          refine x_inv (N := m_X11_refuse) (As := [.int (-1)]) (b := 31) (st := []) (d' := 99) (mc := 0) (ms := 0) (host := "") 11 rfl t_X11_refuse ⟨Or.inl q_11_206, i_X11_refuse.1, i_X11_refuse.2⟩ ⟨by decide, rfl⟩ (congrArg Prod.fst (F.1 31 (11, 13) rfl rfl)) rfl (by decide) rfl rfl ⟨by decide, by decide⟩ (jC.of rfl k_X11_refuse rfl ?_)
          show jX m_X11_refuse 99 0 0 0 [(0, .ref 31), (1, .int (-1))] [] _ 0 0 _
          refine x_aloadn (x := 31) rfl rfl ?_
          refine x_iloadn (x := (-1)) rfl rfl ?_
          refine x_putI 11 12 rfl f_11_94 rfl (jfin_no TX11 RX11 13 rfl rfl) (congrArg Prod.fst (F.1 31 (11, 13) rfl rfl)) rfl ?_
          refine x_iloadn (x := (-1)) rfl rfl ?_
          refine x_iret rfl rfl ?_
          show jX m_X11_value 100 0 0 31 [(0, .ref 31), (1, .int a1), (2, .int a2), (3, .int a3), (4, .int a4)] [.int (-1)] _ 0 0 _
          refine x_iret rfl rfl ?_
          exact jqe (show sp_value a1 a2 a3 a4 = (-1) by unfold sp_value; (repeat' split) <;> first | rfl | (exfalso; omega)) (hQ _ (by repeat (first | exact FM | refine jFb_si rfl ?_ | refine jFb_sl rfl ?_ | refine jFb_ci rfl ?_ | refine jFb_cl rfl ?_ | refine jFb_sr rfl ?_)) (by repeat (first | exact O | refine jOl_si rfl ?_ | refine jOl_sl rfl ?_ | refine jOl_ci rfl ?_ | refine jOl_cl rfl ?_ | refine jOl_sr rfl ?_)))
set_option maxRecDepth 100000 in
set_option maxHeartbeats 40000000 in
theorem pm_value (a1 a2 a3 a4 : Int32) {xs : Nat → Int32} {h : jH} {Q : Option Value → jH → Prop} (F : jFb 125 h) (O : jOl 7 xs h) (hQ : ∀ h', jOl 7 xs h' → Q (some (.int (sp_value a1 a2 a3 a4))) h') : jC m_X12_value 100 0 0 [.ref 125, .int a1, .int a2, .int a3, .int a4] h Q := by
  refine jC.of rfl k_X12_value rfl ?_
  show jX m_X12_value 100 0 0 0 [(0, .ref 125), (1, .int a1), (2, .int a2), (3, .int a3), (4, .int a4)] [] _ 0 0 _
  refine x_aloadn (x := 125) rfl rfl ?_
  refine x_iconst (v := 0) rfl ki_0 ?_
  refine x_putI 12 0 rfl f_12_180 rfl (jfin_no TX12 RX12 92 rfl rfl) (congrArg Prod.fst (F.1 125 (12, 92) rfl rfl)) rfl ?_
  refine x_iloadn (x := a2) rfl rfl ?_
  refine x_i2l rfl ?_
  refine x_lconst (v := 0) rfl kl_0 ?_
  refine x_ldc2 (v := 10000) rfl z_12_809 ?_
  refine x_inst (N := m_X12_in) (As := [.long (a2.toInt64), .long 0, .long 10000]) (st := []) (d' := 99) (mc := 0) (ms := 0) (host := "") rfl t_X12_in ⟨Or.inl q_12_188, s_X12_in⟩ rfl (by decide) rfl rfl ⟨by decide, by decide⟩ (c_X12_in (jt_l _) (by decide) (by decide) ?_)
  show jX m_X12_value 100 0 0 14 [(0, .ref 125), (1, .int a1), (2, .int a2), (3, .int a3), (4, .int a4)] [.int (jp (0 ≤ a2.toInt ∧ a2.toInt ≤ 10000))] _ 0 0 _
  refine x_ifeq (tgt := 32) rfl rfl (jpe ⟨fun c1 => ?_, fun c1 => ?_⟩)
  ·
    refine x_aloadn (x := 125) rfl rfl ?_
    refine x_iconst (v := (-1)) rfl ki_m1 ?_
    refine x_inv (N := m_X12_told) (As := [.int (-1)]) (b := 125) (st := []) (d' := 99) (mc := 0) (ms := 0) (host := "") 12 rfl t_X12_told ⟨Or.inl q_12_197, i_X12_told.1, i_X12_told.2⟩ ⟨by decide, rfl⟩ (congrArg Prod.fst (F.1 125 (12, 92) rfl rfl)) rfl (by decide) rfl rfl ⟨by decide, by decide⟩ (jC.of rfl k_X12_told rfl ?_)
    show jX m_X12_told 99 0 0 0 [(0, .ref 125), (1, .int (-1))] [] _ 0 0 _
    refine x_aloadn (x := 125) rfl rfl ?_
    refine x_iloadn (x := (-1)) rfl rfl ?_
    refine x_ifge (tgt := 9) rfl rfl (br_f (by decide) ?_)
    refine x_iloadn (x := (-1)) rfl rfl ?_
    refine x_goto (tgt := 10) rfl rfl ?_
    refine x_putI 12 1 rfl f_12_183 rfl (jfin_no TX12 RX12 92 rfl rfl) (congrArg Prod.fst (F.1 125 (12, 92) rfl rfl)) rfl ?_
    refine x_iloadn (x := (-1)) rfl rfl ?_
    refine x_iret rfl rfl ?_
    show jX m_X12_value 100 0 0 37 [(0, .ref 125), (1, .int a1), (2, .int a2), (3, .int a3), (4, .int a4)] [.int (-1)] _ 0 0 _
    refine x_iret rfl rfl ?_
    exact jqe (show sp_value a1 a2 a3 a4 = (-1) by unfold sp_value; (repeat' split) <;> first | rfl | (exfalso; omega)) (hQ _ (by repeat (first | exact O | refine jOl_si rfl ?_ | refine jOl_sl rfl ?_ | refine jOl_ci rfl ?_ | refine jOl_cl rfl ?_ | refine jOl_sr rfl ?_)))
  ·
    refine x_iloadn (x := a3) rfl rfl ?_
    refine x_inst (N := m_X12_isDay) (As := [.int a3]) (st := []) (d' := 99) (mc := 0) (ms := 0) (host := "") rfl t_X12_isDay ⟨Or.inl q_12_273, s_X12_isDay⟩ rfl (by decide) rfl rfl ⟨by decide, by decide⟩ (c_X12_isDay (x := a3) ?_)
    show jX m_X12_value 100 0 0 21 [(0, .ref 125), (1, .int a1), (2, .int a2), (3, .int a3), (4, .int a4)] [.int (jp (0 ≤ a3.toInt ∧ a3.toInt ≤ 146399))] _ 0 0 _
    refine x_ifeq (tgt := 32) rfl rfl (jpe ⟨fun c2 => ?_, fun c2 => ?_⟩)
    ·
      refine x_aloadn (x := 125) rfl rfl ?_
      refine x_iconst (v := (-1)) rfl ki_m1 ?_
      refine x_inv (N := m_X12_told) (As := [.int (-1)]) (b := 125) (st := []) (d' := 99) (mc := 0) (ms := 0) (host := "") 12 rfl t_X12_told ⟨Or.inl q_12_197, i_X12_told.1, i_X12_told.2⟩ ⟨by decide, rfl⟩ (congrArg Prod.fst (F.1 125 (12, 92) rfl rfl)) rfl (by decide) rfl rfl ⟨by decide, by decide⟩ (jC.of rfl k_X12_told rfl ?_)
      show jX m_X12_told 99 0 0 0 [(0, .ref 125), (1, .int (-1))] [] _ 0 0 _
      refine x_aloadn (x := 125) rfl rfl ?_
      refine x_iloadn (x := (-1)) rfl rfl ?_
      refine x_ifge (tgt := 9) rfl rfl (br_f (by decide) ?_)
      refine x_iloadn (x := (-1)) rfl rfl ?_
      refine x_goto (tgt := 10) rfl rfl ?_
      refine x_putI 12 1 rfl f_12_183 rfl (jfin_no TX12 RX12 92 rfl rfl) (congrArg Prod.fst (F.1 125 (12, 92) rfl rfl)) rfl ?_
      refine x_iloadn (x := (-1)) rfl rfl ?_
      refine x_iret rfl rfl ?_
      show jX m_X12_value 100 0 0 37 [(0, .ref 125), (1, .int a1), (2, .int a2), (3, .int a3), (4, .int a4)] [.int (-1)] _ 0 0 _
      refine x_iret rfl rfl ?_
      exact jqe (show sp_value a1 a2 a3 a4 = (-1) by unfold sp_value; (repeat' split) <;> first | rfl | (exfalso; omega)) (hQ _ (by repeat (first | exact O | refine jOl_si rfl ?_ | refine jOl_sl rfl ?_ | refine jOl_ci rfl ?_ | refine jOl_cl rfl ?_ | refine jOl_sr rfl ?_)))
    ·
      refine x_iload (x := a4) rfl rfl ?_
      refine x_inst (N := m_X12_isDay) (As := [.int a4]) (st := []) (d' := 99) (mc := 0) (ms := 0) (host := "") rfl t_X12_isDay ⟨Or.inl q_12_273, s_X12_isDay⟩ rfl (by decide) rfl rfl ⟨by decide, by decide⟩ (c_X12_isDay (x := a4) ?_)
      show jX m_X12_value 100 0 0 29 [(0, .ref 125), (1, .int a1), (2, .int a2), (3, .int a3), (4, .int a4)] [.int (jp (0 ≤ a4.toInt ∧ a4.toInt ≤ 146399))] _ 0 0 _
      refine x_ifne (tgt := 38) rfl rfl (jpn ⟨fun c3 => ?_, fun c3 => ?_⟩)
      ·
        refine x_aloadn (x := 125) rfl rfl ?_
        refine x_iloadn (x := a1) rfl rfl ?_
        refine x_inv (N := m_X12_isHolding) (As := [.int a1]) (b := 125) (st := []) (d' := 99) (mc := 0) (ms := 0) (host := "") 12 rfl t_X12_isHolding ⟨Or.inl q_12_811, i_X12_isHolding.1, i_X12_isHolding.2⟩ ⟨by decide, rfl⟩ (congrArg Prod.fst (F.1 125 (12, 92) rfl rfl)) rfl (by decide) rfl rfl ⟨by decide, by decide⟩ (jC.of rfl k_X12_isHolding rfl ?_)
        show jX m_X12_isHolding 99 0 0 0 [(0, .ref 125), (1, .int a1)] [] _ 0 0 _
        refine x_iloadn (x := a1) rfl rfl ?_
        refine x_i2l rfl ?_
        refine x_lconst (v := 0) rfl kl_0 ?_
        refine x_aloadn (x := 125) rfl rfl ?_
        refine x_getR (b := 126) 12 2 rfl f_12_8 rfl (congrArg Prod.fst (F.1 125 (12, 92) rfl rfl)) (F.2.1 16002 126 rfl rfl) ?_
        refine x_bipush (v := 7) rfl kb_7 ?_
        refine y_iald (v := 0) (N := 50660) 7 rfl (F.1 126 (100, 50660) rfl rfl) (jinb_of (by decide)) (by decide) (F.2.2.2.1 126 rfl rfl 7).1 ?_
        refine y_i2l (v := 0) rfl (by decide) ?_
        refine x_lconst (v := 1) rfl kl_1 ?_
        refine y_lsub (v := (-1)) rfl (by decide) ?_
        refine x_inst (N := m_X12_in) (As := [.long (a1.toInt64), .long 0, .long (-1)]) (st := []) (d' := 98) (mc := 0) (ms := 0) (host := "") rfl t_X12_in ⟨Or.inl q_12_188, s_X12_in⟩ rfl (by decide) rfl rfl ⟨by decide, by decide⟩ (c_X12_in (jt_l _) (by decide) (by decide) ?_)
        show jX m_X12_isHolding 99 0 0 16 [(0, .ref 125), (1, .int a1)] [.int (jp (0 ≤ a1.toInt ∧ a1.toInt ≤ (-1)))] _ 0 0 _
        refine x_zret rfl rfl (by first | decide | exact jp_01 _) ?_
        show jX m_X12_value 100 0 0 43 [(0, .ref 125), (1, .int a1), (2, .int a2), (3, .int a3), (4, .int a4)] [.int (jp (0 ≤ a1.toInt ∧ a1.toInt ≤ (-1)))] _ 0 0 _
        refine x_ifne (tgt := 53) rfl rfl (jpn ⟨fun c4 => ?_, fun c4 => ?_⟩)
        ·
          refine x_aloadn (x := 125) rfl rfl ?_
          refine x_iloadn (x := a1) rfl rfl ?_
          refine x_inv (N := m_X12_splitOf) (As := [.int a1]) (b := 125) (st := []) (d' := 99) (mc := 0) (ms := 0) (host := "") 12 rfl t_X12_splitOf ⟨Or.inl q_12_805, i_X12_splitOf.1, i_X12_splitOf.2⟩ ⟨by decide, rfl⟩ (congrArg Prod.fst (F.1 125 (12, 92) rfl rfl)) rfl (by decide) rfl rfl ⟨by decide, by decide⟩ (jC.of rfl k_X12_splitOf rfl ?_)
          show jX m_X12_splitOf 99 0 0 0 [(0, .ref 125), (1, .int a1)] [] _ 0 0 _
          refine x_iconst (v := (-1)) rfl ki_m1 ?_
          refine x_istoren (ls' := [(2, .int (-1)), (0, .ref 125), (1, .int a1)]) rfl rfl rfl ?_
          refine x_iconst (v := 0) rfl ki_0 ?_
          refine x_istoren (ls' := [(3, .int 0), (2, .int (-1)), (0, .ref 125), (1, .int a1)]) rfl rfl rfl ?_
          refine x_iloadn (x := 0) rfl rfl ?_
          refine x_aloadn (x := 125) rfl rfl ?_
          refine x_getR (b := 126) 12 2 rfl f_12_8 rfl (congrArg Prod.fst (F.1 125 (12, 92) rfl rfl)) (F.2.1 16002 126 rfl rfl) ?_
          refine x_bipush (v := 9) rfl kb_9 ?_
          refine y_iald (v := 0) (N := 50660) 9 rfl (F.1 126 (100, 50660) rfl rfl) (jinb_of (by decide)) (by decide) (F.2.2.2.1 126 rfl rfl 9).1 ?_
          refine x_icge (tgt := 51) rfl rfl (br_t (by decide) ?_)
          refine x_iloadn (x := (-1)) rfl rfl ?_
          refine x_iret rfl rfl ?_
          show jX m_X12_value 100 0 0 58 [(0, .ref 125), (1, .int a1), (2, .int a2), (3, .int a3), (4, .int a4)] [.int (-1)] _ 0 0 _
          refine x_iconst (v := (-1)) rfl ki_m1 ?_
          refine x_iceq (tgt := 69) rfl rfl (br_t (by decide) ?_)
          refine x_aloadn (x := 125) rfl rfl ?_
          refine x_getR (b := 126) 12 2 rfl f_12_8 rfl (congrArg Prod.fst (F.1 125 (12, 92) rfl rfl)) (F.2.1 16002 126 rfl rfl) ?_
          refine x_bipush (v := 8) rfl kb_8 ?_
          refine y_iald (v := 0) (N := 50660) 8 rfl (F.1 126 (100, 50660) rfl rfl) (jinb_of (by decide)) (by decide) (F.2.2.2.1 126 rfl rfl 8).1 ?_
          refine x_bipush (v := 100) rfl kb_100 ?_
          refine x_icne (tgt := 88) rfl rfl (bn_t (by decide) ?_)
          refine x_aloadn (x := 125) rfl rfl ?_
          refine x_ldcw (v := 47260) rfl z_12_800 ?_
          refine x_iconst (v := 4) rfl ki_4 ?_
          refine x_aloadn (x := 125) rfl rfl ?_
          refine x_getR (b := 126) 12 2 rfl f_12_8 rfl (congrArg Prod.fst (F.1 125 (12, 92) rfl rfl)) (F.2.1 16002 126 rfl rfl) ?_
          refine x_bipush (v := 8) rfl kb_8 ?_
          refine y_iald (v := 0) (N := 50660) 8 rfl (F.1 126 (100, 50660) rfl rfl) (jinb_of (by decide)) (by decide) (F.2.2.2.1 126 rfl rfl 8).1 ?_
          refine y_imul (v := 0) rfl (by decide) ?_
          refine y_iadd (v := 47260) rfl (by decide) ?_
          refine x_iloadn (x := a1) rfl rfl ?_
          refine x_iloadn (x := a2) rfl rfl ?_
          refine x_iloadn (x := a3) rfl rfl ?_
          refine x_iload (x := a4) rfl rfl ?_
          refine x_inv (N := m_X12_addFour) (As := [.int 47260, .int a1, .int a2, .int a3, .int a4]) (b := 125) (st := []) (d' := 99) (mc := 0) (ms := 0) (host := "") 12 rfl t_X12_addFour ⟨Or.inl q_12_814, i_X12_addFour.1, i_X12_addFour.2⟩ ⟨by decide, rfl⟩ (congrArg Prod.fst (F.1 125 (12, 92) rfl rfl)) rfl (by decide) rfl rfl ⟨by decide, by decide⟩ (jC.of rfl k_X12_addFour rfl ?_)
          show jX m_X12_addFour 99 0 0 0 [(0, .ref 125), (1, .int 47260), (2, .int a1), (3, .int a2), (4, .int a3), (5, .int a4)] [] _ 0 0 _
          refine x_aloadn (x := 125) rfl rfl ?_
          refine x_getR (b := 126) 12 2 rfl f_12_8 rfl (congrArg Prod.fst (F.1 125 (12, 92) rfl rfl)) (F.2.1 16002 126 rfl rfl) ?_
          refine x_iloadn (x := 47260) rfl rfl ?_
          refine x_iloadn (x := a1) rfl rfl ?_
          refine y_iast (N := 50660) 47260 rfl (F.1 126 (100, 50660) rfl rfl) rfl (jinb_of (by decide)) (by decide) ?_
          refine x_aloadn (x := 125) rfl rfl ?_
          refine x_getR (b := 126) 12 2 rfl f_12_8 rfl (congrArg Prod.fst (F.1 125 (12, 92) rfl rfl)) (F.2.1 16002 126 rfl rfl) ?_
          refine x_iloadn (x := 47260) rfl rfl ?_
          refine x_iconst (v := 1) rfl ki_1 ?_
          refine y_iadd (v := 47261) rfl (by decide) ?_
          refine x_iloadn (x := a2) rfl rfl ?_
          refine y_iast (N := 50660) 47261 rfl (F.1 126 (100, 50660) rfl rfl) rfl (jinb_of (by decide)) (by decide) ?_
          refine x_aloadn (x := 125) rfl rfl ?_
          refine x_getR (b := 126) 12 2 rfl f_12_8 rfl (congrArg Prod.fst (F.1 125 (12, 92) rfl rfl)) (F.2.1 16002 126 rfl rfl) ?_
          refine x_iloadn (x := 47260) rfl rfl ?_
          refine x_iconst (v := 2) rfl ki_2 ?_
          refine y_iadd (v := 47262) rfl (by decide) ?_
          refine x_iload (x := a3) rfl rfl ?_
          refine y_iast (N := 50660) 47262 rfl (F.1 126 (100, 50660) rfl rfl) rfl (jinb_of (by decide)) (by decide) ?_
          refine x_aloadn (x := 125) rfl rfl ?_
          refine x_getR (b := 126) 12 2 rfl f_12_8 rfl (congrArg Prod.fst (F.1 125 (12, 92) rfl rfl)) (F.2.1 16002 126 rfl rfl) ?_
          refine x_iloadn (x := 47260) rfl rfl ?_
          refine x_iconst (v := 3) rfl ki_3 ?_
          refine y_iadd (v := 47263) rfl (by decide) ?_
          refine x_iload (x := a4) rfl rfl ?_
          refine y_iast (N := 50660) 47263 rfl (F.1 126 (100, 50660) rfl rfl) rfl (jinb_of (by decide)) (by decide) ?_
          refine x_vret rfl rfl ?_
          show jX m_X12_value 100 0 0 110 [(0, .ref 125), (1, .int a1), (2, .int a2), (3, .int a3), (4, .int a4)] [] _ 0 0 _
          refine x_aloadn (x := 125) rfl rfl ?_
          refine x_getR (b := 126) 12 2 rfl f_12_8 rfl (congrArg Prod.fst (F.1 125 (12, 92) rfl rfl)) (F.2.1 16002 126 rfl rfl) ?_
          refine x_bipush (v := 8) rfl kb_8 ?_
          refine x_dup2 rfl rfl rfl ?_
          refine y_iald (v := 0) (N := 50660) 8 rfl (F.1 126 (100, 50660) rfl rfl) (jinb_of (by decide)) (by decide) (F.2.2.2.1 126 rfl rfl 8).1 ?_
          refine x_iconst (v := 1) rfl ki_1 ?_
          refine y_iadd (v := 1) rfl (by decide) ?_
          refine y_iast (N := 50660) 8 rfl (F.1 126 (100, 50660) rfl rfl) rfl (jinb_of (by decide)) (by decide) ?_
          refine x_aloadn (x := 125) rfl rfl ?_
          refine x_aloadn (x := 125) rfl rfl ?_
          refine x_getR (b := 126) 12 2 rfl f_12_8 rfl (congrArg Prod.fst (F.1 125 (12, 92) rfl rfl)) (F.2.1 16002 126 rfl rfl) ?_
          refine x_bipush (v := 8) rfl kb_8 ?_
          refine y_iald (v := 1) (N := 50660) 8 rfl (F.1 126 (100, 50660) rfl rfl) (jinb_of (by decide)) (by decide) rfl ?_
          refine x_inv (N := m_X12_told) (As := [.int 1]) (b := 125) (st := []) (d' := 99) (mc := 0) (ms := 0) (host := "") 12 rfl t_X12_told ⟨Or.inl q_12_197, i_X12_told.1, i_X12_told.2⟩ ⟨by decide, rfl⟩ (congrArg Prod.fst (F.1 125 (12, 92) rfl rfl)) rfl (by decide) rfl rfl ⟨by decide, by decide⟩ (jC.of rfl k_X12_told rfl ?_)
          show jX m_X12_told 99 0 0 0 [(0, .ref 125), (1, .int 1)] [] _ 0 0 _
          refine x_aloadn (x := 125) rfl rfl ?_
          refine x_iloadn (x := 1) rfl rfl ?_
          refine x_ifge (tgt := 9) rfl rfl (br_t (by decide) ?_)
          refine x_iconst (v := 0) rfl ki_0 ?_
          refine x_putI 12 1 rfl f_12_183 rfl (jfin_no TX12 RX12 92 rfl rfl) (congrArg Prod.fst (F.1 125 (12, 92) rfl rfl)) rfl ?_
          refine x_iloadn (x := 1) rfl rfl ?_
          refine x_iret rfl rfl ?_
          show jX m_X12_value 100 0 0 132 [(0, .ref 125), (1, .int a1), (2, .int a2), (3, .int a3), (4, .int a4)] [.int 1] _ 0 0 _
          refine x_iret rfl rfl ?_
          exact jqe (show sp_value a1 a2 a3 a4 = 1 by unfold sp_value; (repeat' split) <;> first | rfl | (exfalso; omega)) (hQ _ (by repeat (first | exact O | refine jOl_si rfl ?_ | refine jOl_sl rfl ?_ | refine jOl_ci rfl ?_ | refine jOl_cl rfl ?_ | refine jOl_sr rfl ?_)))
        ·
          refine x_aloadn (x := 125) rfl rfl ?_
          refine x_bipush (v := (-2)) rfl kb_m2 ?_
          refine x_inv (N := m_X12_told) (As := [.int (-2)]) (b := 125) (st := []) (d' := 99) (mc := 0) (ms := 0) (host := "") 12 rfl t_X12_told ⟨Or.inl q_12_197, i_X12_told.1, i_X12_told.2⟩ ⟨by decide, rfl⟩ (congrArg Prod.fst (F.1 125 (12, 92) rfl rfl)) rfl (by decide) rfl rfl ⟨by decide, by decide⟩ (jC.of rfl k_X12_told rfl ?_)
          show jX m_X12_told 99 0 0 0 [(0, .ref 125), (1, .int (-2))] [] _ 0 0 _
          refine x_aloadn (x := 125) rfl rfl ?_
          refine x_iloadn (x := (-2)) rfl rfl ?_
          refine x_ifge (tgt := 9) rfl rfl (br_f (by decide) ?_)
          refine x_iloadn (x := (-2)) rfl rfl ?_
          refine x_goto (tgt := 10) rfl rfl ?_
          refine x_putI 12 1 rfl f_12_183 rfl (jfin_no TX12 RX12 92 rfl rfl) (congrArg Prod.fst (F.1 125 (12, 92) rfl rfl)) rfl ?_
          refine x_iloadn (x := (-2)) rfl rfl ?_
          refine x_iret rfl rfl ?_
          show jX m_X12_value 100 0 0 52 [(0, .ref 125), (1, .int a1), (2, .int a2), (3, .int a3), (4, .int a4)] [.int (-2)] _ 0 0 _
          refine x_iret rfl rfl ?_
          exact jqe (show sp_value a1 a2 a3 a4 = (-2) by unfold sp_value; (repeat' split) <;> first | rfl | (exfalso; omega)) (hQ _ (by repeat (first | exact O | refine jOl_si rfl ?_ | refine jOl_sl rfl ?_ | refine jOl_ci rfl ?_ | refine jOl_cl rfl ?_ | refine jOl_sr rfl ?_)))
      ·
        refine x_aloadn (x := 125) rfl rfl ?_
        refine x_iconst (v := (-1)) rfl ki_m1 ?_
        refine x_inv (N := m_X12_told) (As := [.int (-1)]) (b := 125) (st := []) (d' := 99) (mc := 0) (ms := 0) (host := "") 12 rfl t_X12_told ⟨Or.inl q_12_197, i_X12_told.1, i_X12_told.2⟩ ⟨by decide, rfl⟩ (congrArg Prod.fst (F.1 125 (12, 92) rfl rfl)) rfl (by decide) rfl rfl ⟨by decide, by decide⟩ (jC.of rfl k_X12_told rfl ?_)
        show jX m_X12_told 99 0 0 0 [(0, .ref 125), (1, .int (-1))] [] _ 0 0 _
        refine x_aloadn (x := 125) rfl rfl ?_
        refine x_iloadn (x := (-1)) rfl rfl ?_
        refine x_ifge (tgt := 9) rfl rfl (br_f (by decide) ?_)
        refine x_iloadn (x := (-1)) rfl rfl ?_
        refine x_goto (tgt := 10) rfl rfl ?_
        refine x_putI 12 1 rfl f_12_183 rfl (jfin_no TX12 RX12 92 rfl rfl) (congrArg Prod.fst (F.1 125 (12, 92) rfl rfl)) rfl ?_
        refine x_iloadn (x := (-1)) rfl rfl ?_
        refine x_iret rfl rfl ?_
        show jX m_X12_value 100 0 0 37 [(0, .ref 125), (1, .int a1), (2, .int a2), (3, .int a3), (4, .int a4)] [.int (-1)] _ 0 0 _
        refine x_iret rfl rfl ?_
        exact jqe (show sp_value a1 a2 a3 a4 = (-1) by unfold sp_value; (repeat' split) <;> first | rfl | (exfalso; omega)) (hQ _ (by repeat (first | exact O | refine jOl_si rfl ?_ | refine jOl_sl rfl ?_ | refine jOl_ci rfl ?_ | refine jOl_cl rfl ?_ | refine jOl_sr rfl ?_)))
def sp_split (a1 a2 a3 a4 a5 : Int32) : Int32 := if (1 ≤ a2.toInt ∧ a2.toInt ≤ 100) ∧ (1 ≤ a3.toInt ∧ a3.toInt ≤ 100) ∧ a2.toInt < a3.toInt ∧ (0 ≤ a4.toInt ∧ a4.toInt ≤ 146399) ∧ (0 ≤ a5.toInt ∧ a5.toInt ≤ 146399) then (-2) else (-1)
set_option maxRecDepth 100000 in
set_option maxHeartbeats 40000000 in
theorem px_split (a1 a2 a3 a4 a5 : Int32) {xs : Nat → Int32} {h : jH} {Q : Option Value → jH → Prop} (F : jFb 31 h) (O : jOl 7 xs h) (hQ : ∀ h', jFb 125 h' → jOl 7 xs h' → Q (some (.int (sp_split a1 a2 a3 a4 a5))) h') : jC m_X11_split 100 0 0 [.ref 31, .int a1, .int a2, .int a3, .int a4, .int a5] h Q := by
  have FM := jFb_up 125 rfl F
  refine jC.of rfl k_X11_split rfl ?_
  show jX m_X11_split 100 0 0 0 [(0, .ref 31), (1, .int a1), (2, .int a2), (3, .int a3), (4, .int a4), (5, .int a5)] [] _ 0 0 _
  refine x_iloadn (x := a2) rfl rfl ?_
  refine x_iconst (v := 1) rfl ki_1 ?_
  refine x_bipush (v := 100) rfl kb_100 ?_
  refine x_inst (N := m_X11_isWithin) (As := [.int a2, .int 1, .int 100]) (st := []) (d' := 99) (mc := 0) (ms := 0) (host := "") rfl t_X11_isWithin ⟨Or.inl q_11_202, s_X11_isWithin⟩ rfl (by decide) rfl rfl ⟨by decide, by decide⟩ (c_X11_isWithin rfl (by decide) (by decide) ?_)
  show jX m_X11_split 100 0 0 7 [(0, .ref 31), (1, .int a1), (2, .int a2), (3, .int a3), (4, .int a4), (5, .int a5)] [.int (jp (1 ≤ a2.toInt ∧ a2.toInt ≤ 100))] _ 0 0 _
  refine x_ifeq (tgt := 41) rfl rfl (jpe ⟨fun c1 => ?_, fun c1 => ?_⟩)
  ·
    refine x_aloadn (x := 31) rfl rfl ?_
    refine x_iconst (v := (-1)) rfl ki_m1 ?_
    refine x_inv (N := m_X11_refuse) (As := [.int (-1)]) (b := 31) (st := []) (d' := 99) (mc := 0) (ms := 0) (host := "") 11 rfl t_X11_refuse ⟨Or.inl q_11_206, i_X11_refuse.1, i_X11_refuse.2⟩ ⟨by decide, rfl⟩ (congrArg Prod.fst (F.1 31 (11, 13) rfl rfl)) rfl (by decide) rfl rfl ⟨by decide, by decide⟩ (jC.of rfl k_X11_refuse rfl ?_)
    show jX m_X11_refuse 99 0 0 0 [(0, .ref 31), (1, .int (-1))] [] _ 0 0 _
    refine x_aloadn (x := 31) rfl rfl ?_
    refine x_iloadn (x := (-1)) rfl rfl ?_
    refine x_putI 11 12 rfl f_11_94 rfl (jfin_no TX11 RX11 13 rfl rfl) (congrArg Prod.fst (F.1 31 (11, 13) rfl rfl)) rfl ?_
    refine x_iloadn (x := (-1)) rfl rfl ?_
    refine x_iret rfl rfl ?_
    show jX m_X11_split 100 0 0 46 [(0, .ref 31), (1, .int a1), (2, .int a2), (3, .int a3), (4, .int a4), (5, .int a5)] [.int (-1)] _ 0 0 _
    refine x_iret rfl rfl ?_
    exact jqe (show sp_split a1 a2 a3 a4 a5 = (-1) by unfold sp_split; (repeat' split) <;> first | rfl | (exfalso; omega)) (hQ _ (by repeat (first | exact FM | refine jFb_si rfl ?_ | refine jFb_sl rfl ?_ | refine jFb_ci rfl ?_ | refine jFb_cl rfl ?_ | refine jFb_sr rfl ?_)) (by repeat (first | exact O | refine jOl_si rfl ?_ | refine jOl_sl rfl ?_ | refine jOl_ci rfl ?_ | refine jOl_cl rfl ?_ | refine jOl_sr rfl ?_)))
  ·
    refine x_iloadn (x := a3) rfl rfl ?_
    refine x_iconst (v := 1) rfl ki_1 ?_
    refine x_bipush (v := 100) rfl kb_100 ?_
    refine x_inst (N := m_X11_isWithin) (As := [.int a3, .int 1, .int 100]) (st := []) (d' := 99) (mc := 0) (ms := 0) (host := "") rfl t_X11_isWithin ⟨Or.inl q_11_202, s_X11_isWithin⟩ rfl (by decide) rfl rfl ⟨by decide, by decide⟩ (c_X11_isWithin rfl (by decide) (by decide) ?_)
    show jX m_X11_split 100 0 0 17 [(0, .ref 31), (1, .int a1), (2, .int a2), (3, .int a3), (4, .int a4), (5, .int a5)] [.int (jp (1 ≤ a3.toInt ∧ a3.toInt ≤ 100))] _ 0 0 _
    refine x_ifeq (tgt := 41) rfl rfl (jpe ⟨fun c2 => ?_, fun c2 => ?_⟩)
    ·
      refine x_aloadn (x := 31) rfl rfl ?_
      refine x_iconst (v := (-1)) rfl ki_m1 ?_
      refine x_inv (N := m_X11_refuse) (As := [.int (-1)]) (b := 31) (st := []) (d' := 99) (mc := 0) (ms := 0) (host := "") 11 rfl t_X11_refuse ⟨Or.inl q_11_206, i_X11_refuse.1, i_X11_refuse.2⟩ ⟨by decide, rfl⟩ (congrArg Prod.fst (F.1 31 (11, 13) rfl rfl)) rfl (by decide) rfl rfl ⟨by decide, by decide⟩ (jC.of rfl k_X11_refuse rfl ?_)
      show jX m_X11_refuse 99 0 0 0 [(0, .ref 31), (1, .int (-1))] [] _ 0 0 _
      refine x_aloadn (x := 31) rfl rfl ?_
      refine x_iloadn (x := (-1)) rfl rfl ?_
      refine x_putI 11 12 rfl f_11_94 rfl (jfin_no TX11 RX11 13 rfl rfl) (congrArg Prod.fst (F.1 31 (11, 13) rfl rfl)) rfl ?_
      refine x_iloadn (x := (-1)) rfl rfl ?_
      refine x_iret rfl rfl ?_
      show jX m_X11_split 100 0 0 46 [(0, .ref 31), (1, .int a1), (2, .int a2), (3, .int a3), (4, .int a4), (5, .int a5)] [.int (-1)] _ 0 0 _
      refine x_iret rfl rfl ?_
      exact jqe (show sp_split a1 a2 a3 a4 a5 = (-1) by unfold sp_split; (repeat' split) <;> first | rfl | (exfalso; omega)) (hQ _ (by repeat (first | exact FM | refine jFb_si rfl ?_ | refine jFb_sl rfl ?_ | refine jFb_ci rfl ?_ | refine jFb_cl rfl ?_ | refine jFb_sr rfl ?_)) (by repeat (first | exact O | refine jOl_si rfl ?_ | refine jOl_sl rfl ?_ | refine jOl_ci rfl ?_ | refine jOl_cl rfl ?_ | refine jOl_sr rfl ?_)))
    ·
      refine x_iloadn (x := a2) rfl rfl ?_
      refine x_iloadn (x := a3) rfl rfl ?_
      refine x_icge (tgt := 41) rfl rfl (ti_ge (show (a2 : Int32).toInt = a2.toInt from rfl) (show (a3 : Int32).toInt = a3.toInt from rfl) ⟨fun c3 => ?_, fun c3 => ?_⟩)
      ·
        refine x_aloadn (x := 31) rfl rfl ?_
        refine x_iconst (v := (-1)) rfl ki_m1 ?_
        refine x_inv (N := m_X11_refuse) (As := [.int (-1)]) (b := 31) (st := []) (d' := 99) (mc := 0) (ms := 0) (host := "") 11 rfl t_X11_refuse ⟨Or.inl q_11_206, i_X11_refuse.1, i_X11_refuse.2⟩ ⟨by decide, rfl⟩ (congrArg Prod.fst (F.1 31 (11, 13) rfl rfl)) rfl (by decide) rfl rfl ⟨by decide, by decide⟩ (jC.of rfl k_X11_refuse rfl ?_)
        show jX m_X11_refuse 99 0 0 0 [(0, .ref 31), (1, .int (-1))] [] _ 0 0 _
        refine x_aloadn (x := 31) rfl rfl ?_
        refine x_iloadn (x := (-1)) rfl rfl ?_
        refine x_putI 11 12 rfl f_11_94 rfl (jfin_no TX11 RX11 13 rfl rfl) (congrArg Prod.fst (F.1 31 (11, 13) rfl rfl)) rfl ?_
        refine x_iloadn (x := (-1)) rfl rfl ?_
        refine x_iret rfl rfl ?_
        show jX m_X11_split 100 0 0 46 [(0, .ref 31), (1, .int a1), (2, .int a2), (3, .int a3), (4, .int a4), (5, .int a5)] [.int (-1)] _ 0 0 _
        refine x_iret rfl rfl ?_
        exact jqe (show sp_split a1 a2 a3 a4 a5 = (-1) by unfold sp_split; (repeat' split) <;> first | rfl | (exfalso; omega)) (hQ _ (by repeat (first | exact FM | refine jFb_si rfl ?_ | refine jFb_sl rfl ?_ | refine jFb_ci rfl ?_ | refine jFb_cl rfl ?_ | refine jFb_sr rfl ?_)) (by repeat (first | exact O | refine jOl_si rfl ?_ | refine jOl_sl rfl ?_ | refine jOl_ci rfl ?_ | refine jOl_cl rfl ?_ | refine jOl_sr rfl ?_)))
      ·
        refine x_iload (x := a4) rfl rfl ?_
        refine x_inst (N := m_X11_isDay) (As := [.int a4]) (st := []) (d' := 99) (mc := 0) (ms := 0) (host := "") rfl t_X11_isDay ⟨Or.inl q_11_115, s_X11_isDay⟩ rfl (by decide) rfl rfl ⟨by decide, by decide⟩ (c_X11_isDay (x := a4) ?_)
        show jX m_X11_split 100 0 0 30 [(0, .ref 31), (1, .int a1), (2, .int a2), (3, .int a3), (4, .int a4), (5, .int a5)] [.int (jp (0 ≤ a4.toInt ∧ a4.toInt ≤ 146399))] _ 0 0 _
        refine x_ifeq (tgt := 41) rfl rfl (jpe ⟨fun c4 => ?_, fun c4 => ?_⟩)
        ·
          refine x_aloadn (x := 31) rfl rfl ?_
          refine x_iconst (v := (-1)) rfl ki_m1 ?_
          refine x_inv (N := m_X11_refuse) (As := [.int (-1)]) (b := 31) (st := []) (d' := 99) (mc := 0) (ms := 0) (host := "") 11 rfl t_X11_refuse ⟨Or.inl q_11_206, i_X11_refuse.1, i_X11_refuse.2⟩ ⟨by decide, rfl⟩ (congrArg Prod.fst (F.1 31 (11, 13) rfl rfl)) rfl (by decide) rfl rfl ⟨by decide, by decide⟩ (jC.of rfl k_X11_refuse rfl ?_)
          show jX m_X11_refuse 99 0 0 0 [(0, .ref 31), (1, .int (-1))] [] _ 0 0 _
          refine x_aloadn (x := 31) rfl rfl ?_
          refine x_iloadn (x := (-1)) rfl rfl ?_
          refine x_putI 11 12 rfl f_11_94 rfl (jfin_no TX11 RX11 13 rfl rfl) (congrArg Prod.fst (F.1 31 (11, 13) rfl rfl)) rfl ?_
          refine x_iloadn (x := (-1)) rfl rfl ?_
          refine x_iret rfl rfl ?_
          show jX m_X11_split 100 0 0 46 [(0, .ref 31), (1, .int a1), (2, .int a2), (3, .int a3), (4, .int a4), (5, .int a5)] [.int (-1)] _ 0 0 _
          refine x_iret rfl rfl ?_
          exact jqe (show sp_split a1 a2 a3 a4 a5 = (-1) by unfold sp_split; (repeat' split) <;> first | rfl | (exfalso; omega)) (hQ _ (by repeat (first | exact FM | refine jFb_si rfl ?_ | refine jFb_sl rfl ?_ | refine jFb_ci rfl ?_ | refine jFb_cl rfl ?_ | refine jFb_sr rfl ?_)) (by repeat (first | exact O | refine jOl_si rfl ?_ | refine jOl_sl rfl ?_ | refine jOl_ci rfl ?_ | refine jOl_cl rfl ?_ | refine jOl_sr rfl ?_)))
        ·
          refine x_iload (x := a5) rfl rfl ?_
          refine x_inst (N := m_X11_isDay) (As := [.int a5]) (st := []) (d' := 99) (mc := 0) (ms := 0) (host := "") rfl t_X11_isDay ⟨Or.inl q_11_115, s_X11_isDay⟩ rfl (by decide) rfl rfl ⟨by decide, by decide⟩ (c_X11_isDay (x := a5) ?_)
          show jX m_X11_split 100 0 0 38 [(0, .ref 31), (1, .int a1), (2, .int a2), (3, .int a3), (4, .int a4), (5, .int a5)] [.int (jp (0 ≤ a5.toInt ∧ a5.toInt ≤ 146399))] _ 0 0 _
          refine x_ifne (tgt := 47) rfl rfl (jpn ⟨fun c5 => ?_, fun c5 => ?_⟩)
          ·
            refine x_aloadn (x := 31) rfl rfl ?_
            refine x_iloadn (x := a1) rfl rfl ?_
            refine x_inv (N := m_X11_isHolding) (As := [.int a1]) (b := 31) (st := []) (d' := 99) (mc := 0) (ms := 0) (host := "") 11 rfl t_X11_isHolding ⟨Or.inl q_11_415, i_X11_isHolding.1, i_X11_isHolding.2⟩ ⟨by decide, rfl⟩ (congrArg Prod.fst (F.1 31 (11, 13) rfl rfl)) rfl (by decide) rfl rfl ⟨by decide, by decide⟩ (jC.of rfl k_X11_isHolding rfl ?_)
            show jX m_X11_isHolding 99 0 0 0 [(0, .ref 31), (1, .int a1)] [] _ 0 0 _
            refine x_iloadn (x := a1) rfl rfl ?_
            refine x_iflt (tgt := 28) rfl rfl (ti_lt (show (a1 : Int32).toInt = a1.toInt from rfl) (show (0 : Int32).toInt = 0 by decide) ⟨fun c6 => ?_, fun c6 => ?_⟩)
            ·
              refine x_iconst (v := 0) rfl ki_0 ?_
              refine x_zret rfl rfl (by first | decide | exact jp_01 _) ?_
              show jX m_X11_split 100 0 0 52 [(0, .ref 31), (1, .int a1), (2, .int a2), (3, .int a3), (4, .int a4), (5, .int a5)] [.int 0] _ 0 0 _
              refine x_ifne (tgt := 62) rfl rfl (bn_f (by decide) ?_)
              refine x_aloadn (x := 31) rfl rfl ?_
              refine x_bipush (v := (-2)) rfl kb_m2 ?_
              refine x_inv (N := m_X11_refuse) (As := [.int (-2)]) (b := 31) (st := []) (d' := 99) (mc := 0) (ms := 0) (host := "") 11 rfl t_X11_refuse ⟨Or.inl q_11_206, i_X11_refuse.1, i_X11_refuse.2⟩ ⟨by decide, rfl⟩ (congrArg Prod.fst (F.1 31 (11, 13) rfl rfl)) rfl (by decide) rfl rfl ⟨by decide, by decide⟩ (jC.of rfl k_X11_refuse rfl ?_)
              show jX m_X11_refuse 99 0 0 0 [(0, .ref 31), (1, .int (-2))] [] _ 0 0 _
              refine x_aloadn (x := 31) rfl rfl ?_
              refine x_iloadn (x := (-2)) rfl rfl ?_
              refine x_putI 11 12 rfl f_11_94 rfl (jfin_no TX11 RX11 13 rfl rfl) (congrArg Prod.fst (F.1 31 (11, 13) rfl rfl)) rfl ?_
              refine x_iloadn (x := (-2)) rfl rfl ?_
              refine x_iret rfl rfl ?_
              show jX m_X11_split 100 0 0 61 [(0, .ref 31), (1, .int a1), (2, .int a2), (3, .int a3), (4, .int a4), (5, .int a5)] [.int (-2)] _ 0 0 _
              refine x_iret rfl rfl ?_
              exact jqe (show sp_split a1 a2 a3 a4 a5 = (-2) by unfold sp_split; (repeat' split) <;> first | rfl | (exfalso; omega)) (hQ _ (by repeat (first | exact FM | refine jFb_si rfl ?_ | refine jFb_sl rfl ?_ | refine jFb_ci rfl ?_ | refine jFb_cl rfl ?_ | refine jFb_sr rfl ?_)) (by repeat (first | exact O | refine jOl_si rfl ?_ | refine jOl_sl rfl ?_ | refine jOl_ci rfl ?_ | refine jOl_cl rfl ?_ | refine jOl_sr rfl ?_)))
            ·
              refine x_iloadn (x := a1) rfl rfl ?_
              refine x_aloadn (x := 31) rfl rfl ?_
              refine x_getR (b := 32) 11 0 rfl f_11_10 rfl (congrArg Prod.fst (F.1 31 (11, 13) rfl rfl)) (F.2.1 3968 32 rfl rfl) ?_
              refine x_getR (b := 49) 1 8 rfl f_11_408 rfl (congrArg Prod.fst (F.1 32 (1, 20) rfl rfl)) (F.2.1 4104 49 rfl rfl) ?_
              refine y_getI (v := 0) 8 3 rfl f_11_142 rfl (congrArg Prod.fst (F.1 49 (8, 4) rfl rfl)) (F.2.2.1 6275 0 rfl rfl) ?_
              refine x_icge (tgt := 28) rfl rfl (ti_ge (show (a1 : Int32).toInt = a1.toInt from rfl) (show (0 : Int32).toInt = 0 by decide) ⟨fun c7 => ?_, fun c7 => ?_⟩)
              ·
                refine x_iconst (v := 0) rfl ki_0 ?_
                refine x_zret rfl rfl (by first | decide | exact jp_01 _) ?_
                show jX m_X11_split 100 0 0 52 [(0, .ref 31), (1, .int a1), (2, .int a2), (3, .int a3), (4, .int a4), (5, .int a5)] [.int 0] _ 0 0 _
                refine x_ifne (tgt := 62) rfl rfl (bn_f (by decide) ?_)
                refine x_aloadn (x := 31) rfl rfl ?_
                refine x_bipush (v := (-2)) rfl kb_m2 ?_
                refine x_inv (N := m_X11_refuse) (As := [.int (-2)]) (b := 31) (st := []) (d' := 99) (mc := 0) (ms := 0) (host := "") 11 rfl t_X11_refuse ⟨Or.inl q_11_206, i_X11_refuse.1, i_X11_refuse.2⟩ ⟨by decide, rfl⟩ (congrArg Prod.fst (F.1 31 (11, 13) rfl rfl)) rfl (by decide) rfl rfl ⟨by decide, by decide⟩ (jC.of rfl k_X11_refuse rfl ?_)
                show jX m_X11_refuse 99 0 0 0 [(0, .ref 31), (1, .int (-2))] [] _ 0 0 _
                refine x_aloadn (x := 31) rfl rfl ?_
                refine x_iloadn (x := (-2)) rfl rfl ?_
                refine x_putI 11 12 rfl f_11_94 rfl (jfin_no TX11 RX11 13 rfl rfl) (congrArg Prod.fst (F.1 31 (11, 13) rfl rfl)) rfl ?_
                refine x_iloadn (x := (-2)) rfl rfl ?_
                refine x_iret rfl rfl ?_
                show jX m_X11_split 100 0 0 61 [(0, .ref 31), (1, .int a1), (2, .int a2), (3, .int a3), (4, .int a4), (5, .int a5)] [.int (-2)] _ 0 0 _
                refine x_iret rfl rfl ?_
                exact jqe (show sp_split a1 a2 a3 a4 a5 = (-2) by unfold sp_split; (repeat' split) <;> first | rfl | (exfalso; omega)) (hQ _ (by repeat (first | exact FM | refine jFb_si rfl ?_ | refine jFb_sl rfl ?_ | refine jFb_ci rfl ?_ | refine jFb_cl rfl ?_ | refine jFb_sr rfl ?_)) (by repeat (first | exact O | refine jOl_si rfl ?_ | refine jOl_sl rfl ?_ | refine jOl_ci rfl ?_ | refine jOl_cl rfl ?_ | refine jOl_sr rfl ?_)))
              ·
                refine x_iloadn (x := a1) rfl rfl ?_
                refine x_bipush (v := 40) rfl kb_40 ?_
                refine x_icge (tgt := 28) rfl rfl (ti_ge (show (a1 : Int32).toInt = a1.toInt from rfl) (show (40 : Int32).toInt = 40 by decide) ⟨fun c8 => ?_, fun c8 => ?_⟩)
                ·
                  refine x_iconst (v := 0) rfl ki_0 ?_
                  refine x_zret rfl rfl (by first | decide | exact jp_01 _) ?_
                  show jX m_X11_split 100 0 0 52 [(0, .ref 31), (1, .int a1), (2, .int a2), (3, .int a3), (4, .int a4), (5, .int a5)] [.int 0] _ 0 0 _
                  refine x_ifne (tgt := 62) rfl rfl (bn_f (by decide) ?_)
                  refine x_aloadn (x := 31) rfl rfl ?_
                  refine x_bipush (v := (-2)) rfl kb_m2 ?_
                  refine x_inv (N := m_X11_refuse) (As := [.int (-2)]) (b := 31) (st := []) (d' := 99) (mc := 0) (ms := 0) (host := "") 11 rfl t_X11_refuse ⟨Or.inl q_11_206, i_X11_refuse.1, i_X11_refuse.2⟩ ⟨by decide, rfl⟩ (congrArg Prod.fst (F.1 31 (11, 13) rfl rfl)) rfl (by decide) rfl rfl ⟨by decide, by decide⟩ (jC.of rfl k_X11_refuse rfl ?_)
                  show jX m_X11_refuse 99 0 0 0 [(0, .ref 31), (1, .int (-2))] [] _ 0 0 _
                  refine x_aloadn (x := 31) rfl rfl ?_
                  refine x_iloadn (x := (-2)) rfl rfl ?_
                  refine x_putI 11 12 rfl f_11_94 rfl (jfin_no TX11 RX11 13 rfl rfl) (congrArg Prod.fst (F.1 31 (11, 13) rfl rfl)) rfl ?_
                  refine x_iloadn (x := (-2)) rfl rfl ?_
                  refine x_iret rfl rfl ?_
                  show jX m_X11_split 100 0 0 61 [(0, .ref 31), (1, .int a1), (2, .int a2), (3, .int a3), (4, .int a4), (5, .int a5)] [.int (-2)] _ 0 0 _
                  refine x_iret rfl rfl ?_
                  exact jqe (show sp_split a1 a2 a3 a4 a5 = (-2) by unfold sp_split; (repeat' split) <;> first | rfl | (exfalso; omega)) (hQ _ (by repeat (first | exact FM | refine jFb_si rfl ?_ | refine jFb_sl rfl ?_ | refine jFb_ci rfl ?_ | refine jFb_cl rfl ?_ | refine jFb_sr rfl ?_)) (by repeat (first | exact O | refine jOl_si rfl ?_ | refine jOl_sl rfl ?_ | refine jOl_ci rfl ?_ | refine jOl_cl rfl ?_ | refine jOl_sr rfl ?_)))
                ·
                  refine x_iconst (v := 1) rfl ki_1 ?_
                  refine x_goto (tgt := 29) rfl rfl ?_
                  refine x_zret rfl rfl (by first | decide | exact jp_01 _) ?_
                  show jX m_X11_split 100 0 0 52 [(0, .ref 31), (1, .int a1), (2, .int a2), (3, .int a3), (4, .int a4), (5, .int a5)] [.int 1] _ 0 0 _
                  refine x_ifne (tgt := 62) rfl rfl (bn_t (by decide) ?_)
                  refine x_aloadn (x := 31) rfl rfl ?_
                  refine x_getR (b := 32) 11 0 rfl f_11_10 rfl (congrArg Prod.fst (F.1 31 (11, 13) rfl rfl)) (F.2.1 3968 32 rfl rfl) ?_
                  refine x_getR (b := 49) 1 8 rfl f_11_408 rfl (congrArg Prod.fst (F.1 32 (1, 20) rfl rfl)) (F.2.1 4104 49 rfl rfl) ?_
                  refine x_inv (N := m_X8_isFull) (As := []) (b := 49) (st := []) (d' := 99) (mc := 0) (ms := 0) (host := "") 8 rfl t_X8_isFull ⟨Or.inl q_11_130, i_X8_isFull.1, i_X8_isFull.2⟩ ⟨by decide, rfl⟩ (congrArg Prod.fst (F.1 49 (8, 4) rfl rfl)) rfl (by decide) rfl rfl ⟨by decide, by decide⟩ (jC.of rfl k_X8_isFull rfl ?_)
                  show jX m_X8_isFull 99 0 0 0 [(0, .ref 49)] [] _ 0 0 _
                  refine x_aloadn (x := 49) rfl rfl ?_
                  refine y_getI (v := 0) 8 3 rfl f_8_7 rfl (congrArg Prod.fst (F.1 49 (8, 4) rfl rfl)) (F.2.2.1 6275 0 rfl rfl) ?_
                  refine x_aloadn (x := 49) rfl rfl ?_
                  refine y_getI (v := 40) 8 1 rfl f_8_22 rfl (congrArg Prod.fst (F.1 49 (8, 4) rfl rfl)) (F.2.2.1 6273 40 rfl rfl) ?_
                  refine x_iclt (tgt := 15) rfl rfl (br_t (by decide) ?_)
                  refine x_iconst (v := 0) rfl ki_0 ?_
                  refine x_zret rfl rfl (by first | decide | exact jp_01 _) ?_
                  show jX m_X11_split 100 0 0 72 [(0, .ref 31), (1, .int a1), (2, .int a2), (3, .int a3), (4, .int a4), (5, .int a5)] [.int 0] _ 0 0 _
                  refine x_ifeq (tgt := 82) rfl rfl (br_t (by decide) ?_)
                  refine x_aloadn (x := 31) rfl rfl ?_
                  refine x_aloadn (x := 31) rfl rfl ?_
                  refine x_iloadn (x := a1) rfl rfl ?_
                  refine x_iloadn (x := a2) rfl rfl ?_
                  refine x_iloadn (x := a3) rfl rfl ?_
                  refine x_iload (x := a4) rfl rfl ?_
                  refine x_iload (x := a5) rfl rfl ?_
                  refine x_inv (N := m_X11_addHolding) (As := [.int a1, .int a2, .int a3, .int a4, .int a5]) (b := 31) (st := [.ref 31]) (d' := 99) (mc := 0) (ms := 0) (host := "") 11 rfl t_X11_addHolding ⟨Or.inl q_11_411, i_X11_addHolding.1, i_X11_addHolding.2⟩ ⟨by decide, rfl⟩ (congrArg Prod.fst (F.1 31 (11, 13) rfl rfl)) rfl (by decide) rfl rfl ⟨by decide, by decide⟩ (jC.of rfl k_X11_addHolding rfl ?_)
                  show jX m_X11_addHolding 99 0 0 0 [(0, .ref 31), (1, .int a1), (2, .int a2), (3, .int a3), (4, .int a4), (5, .int a5)] [] _ 0 0 _
                  refine x_aloadn (x := 31) rfl rfl ?_
                  refine x_getR (b := 32) 11 0 rfl f_11_10 rfl (congrArg Prod.fst (F.1 31 (11, 13) rfl rfl)) (F.2.1 3968 32 rfl rfl) ?_
                  refine x_getR (b := 49) 1 8 rfl f_11_408 rfl (congrArg Prod.fst (F.1 32 (1, 20) rfl rfl)) (F.2.1 4104 49 rfl rfl) ?_
                  refine y_getI (v := 0) 8 3 rfl f_11_142 rfl (congrArg Prod.fst (F.1 49 (8, 4) rfl rfl)) (F.2.2.1 6275 0 rfl rfl) ?_
                  refine x_istore (ls' := [(6, .int 0), (0, .ref 31), (1, .int a1), (2, .int a2), (3, .int a3), (4, .int a4), (5, .int a5)]) rfl rfl rfl ?_
                  refine x_aloadn (x := 31) rfl rfl ?_
                  refine x_getR (b := 32) 11 0 rfl f_11_10 rfl (congrArg Prod.fst (F.1 31 (11, 13) rfl rfl)) (F.2.1 3968 32 rfl rfl) ?_
                  refine x_getR (b := 49) 1 8 rfl f_11_408 rfl (congrArg Prod.fst (F.1 32 (1, 20) rfl rfl)) (F.2.1 4104 49 rfl rfl) ?_
                  refine x_iload (x := a5) rfl rfl ?_
                  refine x_iload (x := a4) rfl rfl ?_
                  refine x_iloadn (x := a1) rfl rfl ?_
                  refine x_iloadn (x := a2) rfl rfl ?_
                  refine x_iloadn (x := a3) rfl rfl ?_
                  refine x_iconst (v := 0) rfl ki_0 ?_
                  refine x_inv (N := m_X8_add) (As := [.int a5, .int a4, .int a1, .int a2, .int a3, .int 0]) (b := 49) (st := []) (d' := 98) (mc := 0) (ms := 0) (host := "") 8 rfl t_X8_add ⟨Or.inl q_11_145, i_X8_add.1, i_X8_add.2⟩ ⟨by decide, rfl⟩ (congrArg Prod.fst (F.1 49 (8, 4) rfl rfl)) rfl (by decide) rfl rfl ⟨by decide, by decide⟩ (jC.of rfl k_X8_add rfl ?_)
                  show jX m_X8_add 98 0 0 0 [(0, .ref 49), (1, .int a5), (2, .int a4), (3, .int a1), (4, .int a2), (5, .int a3), (6, .int 0)] [] _ 0 0 _
                  refine x_aloadn (x := 49) rfl rfl ?_
                  refine y_getI (v := 0) 8 3 rfl f_8_7 rfl (congrArg Prod.fst (F.1 49 (8, 4) rfl rfl)) (F.2.2.1 6275 0 rfl rfl) ?_
                  refine x_aloadn (x := 49) rfl rfl ?_
                  refine y_getI (v := 40) 8 1 rfl f_8_22 rfl (congrArg Prod.fst (F.1 49 (8, 4) rfl rfl)) (F.2.2.1 6273 40 rfl rfl) ?_
                  refine x_iclt (tgt := 12) rfl rfl (br_t (by decide) ?_)
                  refine x_aloadn (x := 49) rfl rfl ?_
                  refine y_getI (v := 0) 8 3 rfl f_8_7 rfl (congrArg Prod.fst (F.1 49 (8, 4) rfl rfl)) (F.2.2.1 6275 0 rfl rfl) ?_
                  refine x_istore (ls' := [(7, .int 0), (0, .ref 49), (1, .int a5), (2, .int a4), (3, .int a1), (4, .int a2), (5, .int a3), (6, .int 0)]) rfl rfl rfl ?_
                  refine x_aloadn (x := 49) rfl rfl ?_
                  refine x_iload (x := 0) rfl rfl ?_
                  refine x_iconst (v := 1) rfl ki_1 ?_
                  refine y_iadd (v := 1) rfl (by decide) ?_
                  refine x_putI 8 3 rfl f_8_7 rfl (jfin_no TX8 RX8 4 rfl rfl) (congrArg Prod.fst (F.1 49 (8, 4) rfl rfl)) rfl ?_
                  refine x_aloadn (x := 49) rfl rfl ?_
                  refine x_iload (x := 0) rfl rfl ?_
                  refine x_iconst (v := 0) rfl ki_0 ?_
                  refine x_iloadn (x := a5) rfl rfl ?_
                  refine x_inv (N := m_X8_put) (As := [.int 0, .int 0, .int a5]) (b := 49) (st := []) (d' := 97) (mc := 0) (ms := 0) (host := "") 8 rfl t_X8_put ⟨Or.inl q_8_29, i_X8_put.1, i_X8_put.2⟩ ⟨by decide, rfl⟩ (congrArg Prod.fst (F.1 49 (8, 4) rfl rfl)) rfl (by decide) rfl rfl ⟨by decide, by decide⟩ (jC.of rfl k_X8_put rfl ?_)
                  show jX m_X8_put 97 0 0 0 [(0, .ref 49), (1, .int 0), (2, .int 0), (3, .int a5)] [] _ 0 0 _
                  refine x_iloadn (x := 0) rfl rfl ?_
                  refine x_iflt (tgt := 38) rfl rfl (br_f (by decide) ?_)
                  refine x_iloadn (x := 0) rfl rfl ?_
                  refine x_aloadn (x := 49) rfl rfl ?_
                  refine y_getI (v := 1) 8 3 rfl f_8_7 rfl (congrArg Prod.fst (F.1 49 (8, 4) rfl rfl)) rfl ?_
                  refine x_icge (tgt := 38) rfl rfl (br_f (by decide) ?_)
                  refine x_iloadn (x := 0) rfl rfl ?_
                  refine x_iflt (tgt := 38) rfl rfl (br_f (by decide) ?_)
                  refine x_iloadn (x := 0) rfl rfl ?_
                  refine x_aloadn (x := 49) rfl rfl ?_
                  refine y_getI (v := 5) 8 0 rfl f_8_19 rfl (congrArg Prod.fst (F.1 49 (8, 4) rfl rfl)) (F.2.2.1 6272 5 rfl rfl) ?_
                  refine x_icge (tgt := 38) rfl rfl (br_f (by decide) ?_)
                  refine x_aloadn (x := 49) rfl rfl ?_
                  refine x_getR (b := 50) 8 2 rfl f_8_25 rfl (congrArg Prod.fst (F.1 49 (8, 4) rfl rfl)) (F.2.1 6274 50 rfl rfl) ?_
                  refine x_iloadn (x := 0) rfl rfl ?_
                  refine x_aloadn (x := 49) rfl rfl ?_
                  refine y_getI (v := 5) 8 0 rfl f_8_19 rfl (congrArg Prod.fst (F.1 49 (8, 4) rfl rfl)) (F.2.2.1 6272 5 rfl rfl) ?_
                  refine y_imul (v := 0) rfl (by decide) ?_
                  refine x_iloadn (x := 0) rfl rfl ?_
                  refine y_iadd (v := 0) rfl (by decide) ?_
                  refine x_iloadn (x := a5) rfl rfl ?_
                  refine y_iast (N := 200) 0 rfl (F.1 50 (100, 200) rfl rfl) rfl (jinb_of (by decide)) (by decide) ?_
                  refine x_vret rfl rfl ?_
                  show jX m_X8_add 98 0 0 34 [(7, .int 0), (0, .ref 49), (1, .int a5), (2, .int a4), (3, .int a1), (4, .int a2), (5, .int a3), (6, .int 0)] [] _ 0 0 _
                  refine x_aloadn (x := 49) rfl rfl ?_
                  refine x_iload (x := 0) rfl rfl ?_
                  refine x_iconst (v := 1) rfl ki_1 ?_
                  refine x_iloadn (x := a4) rfl rfl ?_
                  refine x_inv (N := m_X8_put) (As := [.int 0, .int 1, .int a4]) (b := 49) (st := []) (d' := 97) (mc := 0) (ms := 0) (host := "") 8 rfl t_X8_put ⟨Or.inl q_8_29, i_X8_put.1, i_X8_put.2⟩ ⟨by decide, rfl⟩ (congrArg Prod.fst (F.1 49 (8, 4) rfl rfl)) rfl (by decide) rfl rfl ⟨by decide, by decide⟩ (jC.of rfl k_X8_put rfl ?_)
                  show jX m_X8_put 97 0 0 0 [(0, .ref 49), (1, .int 0), (2, .int 1), (3, .int a4)] [] _ 0 0 _
                  refine x_iloadn (x := 0) rfl rfl ?_
                  refine x_iflt (tgt := 38) rfl rfl (br_f (by decide) ?_)
                  refine x_iloadn (x := 0) rfl rfl ?_
                  refine x_aloadn (x := 49) rfl rfl ?_
                  refine y_getI (v := 1) 8 3 rfl f_8_7 rfl (congrArg Prod.fst (F.1 49 (8, 4) rfl rfl)) rfl ?_
                  refine x_icge (tgt := 38) rfl rfl (br_f (by decide) ?_)
                  refine x_iloadn (x := 1) rfl rfl ?_
                  refine x_iflt (tgt := 38) rfl rfl (br_f (by decide) ?_)
                  refine x_iloadn (x := 1) rfl rfl ?_
                  refine x_aloadn (x := 49) rfl rfl ?_
                  refine y_getI (v := 5) 8 0 rfl f_8_19 rfl (congrArg Prod.fst (F.1 49 (8, 4) rfl rfl)) (F.2.2.1 6272 5 rfl rfl) ?_
                  refine x_icge (tgt := 38) rfl rfl (br_f (by decide) ?_)
                  refine x_aloadn (x := 49) rfl rfl ?_
                  refine x_getR (b := 50) 8 2 rfl f_8_25 rfl (congrArg Prod.fst (F.1 49 (8, 4) rfl rfl)) (F.2.1 6274 50 rfl rfl) ?_
                  refine x_iloadn (x := 0) rfl rfl ?_
                  refine x_aloadn (x := 49) rfl rfl ?_
                  refine y_getI (v := 5) 8 0 rfl f_8_19 rfl (congrArg Prod.fst (F.1 49 (8, 4) rfl rfl)) (F.2.2.1 6272 5 rfl rfl) ?_
                  refine y_imul (v := 0) rfl (by decide) ?_
                  refine x_iloadn (x := 1) rfl rfl ?_
                  refine y_iadd (v := 1) rfl (by decide) ?_
                  refine x_iloadn (x := a4) rfl rfl ?_
                  refine y_iast (N := 200) 1 rfl (F.1 50 (100, 200) rfl rfl) rfl (jinb_of (by decide)) (by decide) ?_
                  refine x_vret rfl rfl ?_
                  show jX m_X8_add 98 0 0 42 [(7, .int 0), (0, .ref 49), (1, .int a5), (2, .int a4), (3, .int a1), (4, .int a2), (5, .int a3), (6, .int 0)] [] _ 0 0 _
                  refine x_aloadn (x := 49) rfl rfl ?_
                  refine x_iload (x := 0) rfl rfl ?_
                  refine x_iconst (v := 2) rfl ki_2 ?_
                  refine x_iloadn (x := a1) rfl rfl ?_
                  refine x_inv (N := m_X8_put) (As := [.int 0, .int 2, .int a1]) (b := 49) (st := []) (d' := 97) (mc := 0) (ms := 0) (host := "") 8 rfl t_X8_put ⟨Or.inl q_8_29, i_X8_put.1, i_X8_put.2⟩ ⟨by decide, rfl⟩ (congrArg Prod.fst (F.1 49 (8, 4) rfl rfl)) rfl (by decide) rfl rfl ⟨by decide, by decide⟩ (jC.of rfl k_X8_put rfl ?_)
                  show jX m_X8_put 97 0 0 0 [(0, .ref 49), (1, .int 0), (2, .int 2), (3, .int a1)] [] _ 0 0 _
                  refine x_iloadn (x := 0) rfl rfl ?_
                  refine x_iflt (tgt := 38) rfl rfl (br_f (by decide) ?_)
                  refine x_iloadn (x := 0) rfl rfl ?_
                  refine x_aloadn (x := 49) rfl rfl ?_
                  refine y_getI (v := 1) 8 3 rfl f_8_7 rfl (congrArg Prod.fst (F.1 49 (8, 4) rfl rfl)) rfl ?_
                  refine x_icge (tgt := 38) rfl rfl (br_f (by decide) ?_)
                  refine x_iloadn (x := 2) rfl rfl ?_
                  refine x_iflt (tgt := 38) rfl rfl (br_f (by decide) ?_)
                  refine x_iloadn (x := 2) rfl rfl ?_
                  refine x_aloadn (x := 49) rfl rfl ?_
                  refine y_getI (v := 5) 8 0 rfl f_8_19 rfl (congrArg Prod.fst (F.1 49 (8, 4) rfl rfl)) (F.2.2.1 6272 5 rfl rfl) ?_
                  refine x_icge (tgt := 38) rfl rfl (br_f (by decide) ?_)
                  refine x_aloadn (x := 49) rfl rfl ?_
                  refine x_getR (b := 50) 8 2 rfl f_8_25 rfl (congrArg Prod.fst (F.1 49 (8, 4) rfl rfl)) (F.2.1 6274 50 rfl rfl) ?_
                  refine x_iloadn (x := 0) rfl rfl ?_
                  refine x_aloadn (x := 49) rfl rfl ?_
                  refine y_getI (v := 5) 8 0 rfl f_8_19 rfl (congrArg Prod.fst (F.1 49 (8, 4) rfl rfl)) (F.2.2.1 6272 5 rfl rfl) ?_
                  refine y_imul (v := 0) rfl (by decide) ?_
                  refine x_iloadn (x := 2) rfl rfl ?_
                  refine y_iadd (v := 2) rfl (by decide) ?_
                  refine x_iloadn (x := a1) rfl rfl ?_
                  refine y_iast (N := 200) 2 rfl (F.1 50 (100, 200) rfl rfl) rfl (jinb_of (by decide)) (by decide) ?_
                  refine x_vret rfl rfl ?_
                  show jX m_X8_add 98 0 0 50 [(7, .int 0), (0, .ref 49), (1, .int a5), (2, .int a4), (3, .int a1), (4, .int a2), (5, .int a3), (6, .int 0)] [] _ 0 0 _
                  refine x_aloadn (x := 49) rfl rfl ?_
                  refine x_iload (x := 0) rfl rfl ?_
                  refine x_iconst (v := 3) rfl ki_3 ?_
                  refine x_iload (x := a2) rfl rfl ?_
                  refine x_inv (N := m_X8_put) (As := [.int 0, .int 3, .int a2]) (b := 49) (st := []) (d' := 97) (mc := 0) (ms := 0) (host := "") 8 rfl t_X8_put ⟨Or.inl q_8_29, i_X8_put.1, i_X8_put.2⟩ ⟨by decide, rfl⟩ (congrArg Prod.fst (F.1 49 (8, 4) rfl rfl)) rfl (by decide) rfl rfl ⟨by decide, by decide⟩ (jC.of rfl k_X8_put rfl ?_)
                  show jX m_X8_put 97 0 0 0 [(0, .ref 49), (1, .int 0), (2, .int 3), (3, .int a2)] [] _ 0 0 _
                  refine x_iloadn (x := 0) rfl rfl ?_
                  refine x_iflt (tgt := 38) rfl rfl (br_f (by decide) ?_)
                  refine x_iloadn (x := 0) rfl rfl ?_
                  refine x_aloadn (x := 49) rfl rfl ?_
                  refine y_getI (v := 1) 8 3 rfl f_8_7 rfl (congrArg Prod.fst (F.1 49 (8, 4) rfl rfl)) rfl ?_
                  refine x_icge (tgt := 38) rfl rfl (br_f (by decide) ?_)
                  refine x_iloadn (x := 3) rfl rfl ?_
                  refine x_iflt (tgt := 38) rfl rfl (br_f (by decide) ?_)
                  refine x_iloadn (x := 3) rfl rfl ?_
                  refine x_aloadn (x := 49) rfl rfl ?_
                  refine y_getI (v := 5) 8 0 rfl f_8_19 rfl (congrArg Prod.fst (F.1 49 (8, 4) rfl rfl)) (F.2.2.1 6272 5 rfl rfl) ?_
                  refine x_icge (tgt := 38) rfl rfl (br_f (by decide) ?_)
                  refine x_aloadn (x := 49) rfl rfl ?_
                  refine x_getR (b := 50) 8 2 rfl f_8_25 rfl (congrArg Prod.fst (F.1 49 (8, 4) rfl rfl)) (F.2.1 6274 50 rfl rfl) ?_
                  refine x_iloadn (x := 0) rfl rfl ?_
                  refine x_aloadn (x := 49) rfl rfl ?_
                  refine y_getI (v := 5) 8 0 rfl f_8_19 rfl (congrArg Prod.fst (F.1 49 (8, 4) rfl rfl)) (F.2.2.1 6272 5 rfl rfl) ?_
                  refine y_imul (v := 0) rfl (by decide) ?_
                  refine x_iloadn (x := 3) rfl rfl ?_
                  refine y_iadd (v := 3) rfl (by decide) ?_
                  refine x_iloadn (x := a2) rfl rfl ?_
                  refine y_iast (N := 200) 3 rfl (F.1 50 (100, 200) rfl rfl) rfl (jinb_of (by decide)) (by decide) ?_
                  refine x_vret rfl rfl ?_
                  show jX m_X8_add 98 0 0 59 [(7, .int 0), (0, .ref 49), (1, .int a5), (2, .int a4), (3, .int a1), (4, .int a2), (5, .int a3), (6, .int 0)] [] _ 0 0 _
                  refine x_aloadn (x := 49) rfl rfl ?_
                  refine x_iload (x := 0) rfl rfl ?_
                  refine x_iconst (v := 4) rfl ki_4 ?_
                  refine x_iload (x := a3) rfl rfl ?_
                  refine x_inv (N := m_X8_put) (As := [.int 0, .int 4, .int a3]) (b := 49) (st := []) (d' := 97) (mc := 0) (ms := 0) (host := "") 8 rfl t_X8_put ⟨Or.inl q_8_29, i_X8_put.1, i_X8_put.2⟩ ⟨by decide, rfl⟩ (congrArg Prod.fst (F.1 49 (8, 4) rfl rfl)) rfl (by decide) rfl rfl ⟨by decide, by decide⟩ (jC.of rfl k_X8_put rfl ?_)
                  show jX m_X8_put 97 0 0 0 [(0, .ref 49), (1, .int 0), (2, .int 4), (3, .int a3)] [] _ 0 0 _
                  refine x_iloadn (x := 0) rfl rfl ?_
                  refine x_iflt (tgt := 38) rfl rfl (br_f (by decide) ?_)
                  refine x_iloadn (x := 0) rfl rfl ?_
                  refine x_aloadn (x := 49) rfl rfl ?_
                  refine y_getI (v := 1) 8 3 rfl f_8_7 rfl (congrArg Prod.fst (F.1 49 (8, 4) rfl rfl)) rfl ?_
                  refine x_icge (tgt := 38) rfl rfl (br_f (by decide) ?_)
                  refine x_iloadn (x := 4) rfl rfl ?_
                  refine x_iflt (tgt := 38) rfl rfl (br_f (by decide) ?_)
                  refine x_iloadn (x := 4) rfl rfl ?_
                  refine x_aloadn (x := 49) rfl rfl ?_
                  refine y_getI (v := 5) 8 0 rfl f_8_19 rfl (congrArg Prod.fst (F.1 49 (8, 4) rfl rfl)) (F.2.2.1 6272 5 rfl rfl) ?_
                  refine x_icge (tgt := 38) rfl rfl (br_f (by decide) ?_)
                  refine x_aloadn (x := 49) rfl rfl ?_
                  refine x_getR (b := 50) 8 2 rfl f_8_25 rfl (congrArg Prod.fst (F.1 49 (8, 4) rfl rfl)) (F.2.1 6274 50 rfl rfl) ?_
                  refine x_iloadn (x := 0) rfl rfl ?_
                  refine x_aloadn (x := 49) rfl rfl ?_
                  refine y_getI (v := 5) 8 0 rfl f_8_19 rfl (congrArg Prod.fst (F.1 49 (8, 4) rfl rfl)) (F.2.2.1 6272 5 rfl rfl) ?_
                  refine y_imul (v := 0) rfl (by decide) ?_
                  refine x_iloadn (x := 4) rfl rfl ?_
                  refine y_iadd (v := 4) rfl (by decide) ?_
                  refine x_iloadn (x := a3) rfl rfl ?_
                  refine y_iast (N := 200) 4 rfl (F.1 50 (100, 200) rfl rfl) rfl (jinb_of (by decide)) (by decide) ?_
                  refine x_vret rfl rfl ?_
                  show jX m_X8_add 98 0 0 68 [(7, .int 0), (0, .ref 49), (1, .int a5), (2, .int a4), (3, .int a1), (4, .int a2), (5, .int a3), (6, .int 0)] [] _ 0 0 _
                  refine x_aloadn (x := 49) rfl rfl ?_
                  refine x_iload (x := 0) rfl rfl ?_
                  refine x_iconst (v := 5) rfl ki_5 ?_
                  refine x_iload (x := 0) rfl rfl ?_
                  refine x_inv (N := m_X8_put) (As := [.int 0, .int 5, .int 0]) (b := 49) (st := []) (d' := 97) (mc := 0) (ms := 0) (host := "") 8 rfl t_X8_put ⟨Or.inl q_8_29, i_X8_put.1, i_X8_put.2⟩ ⟨by decide, rfl⟩ (congrArg Prod.fst (F.1 49 (8, 4) rfl rfl)) rfl (by decide) rfl rfl ⟨by decide, by decide⟩ (jC.of rfl k_X8_put rfl ?_)
                  show jX m_X8_put 97 0 0 0 [(0, .ref 49), (1, .int 0), (2, .int 5), (3, .int 0)] [] _ 0 0 _
                  refine x_iloadn (x := 0) rfl rfl ?_
                  refine x_iflt (tgt := 38) rfl rfl (br_f (by decide) ?_)
                  refine x_iloadn (x := 0) rfl rfl ?_
                  refine x_aloadn (x := 49) rfl rfl ?_
                  refine y_getI (v := 1) 8 3 rfl f_8_7 rfl (congrArg Prod.fst (F.1 49 (8, 4) rfl rfl)) rfl ?_
                  refine x_icge (tgt := 38) rfl rfl (br_f (by decide) ?_)
                  refine x_iloadn (x := 5) rfl rfl ?_
                  refine x_iflt (tgt := 38) rfl rfl (br_f (by decide) ?_)
                  refine x_iloadn (x := 5) rfl rfl ?_
                  refine x_aloadn (x := 49) rfl rfl ?_
                  refine y_getI (v := 5) 8 0 rfl f_8_19 rfl (congrArg Prod.fst (F.1 49 (8, 4) rfl rfl)) (F.2.2.1 6272 5 rfl rfl) ?_
                  refine x_icge (tgt := 38) rfl rfl (br_t (by decide) ?_)
                  refine x_vret rfl rfl ?_
                  show jX m_X8_add 98 0 0 77 [(7, .int 0), (0, .ref 49), (1, .int a5), (2, .int a4), (3, .int a1), (4, .int a2), (5, .int a3), (6, .int 0)] [] _ 0 0 _
                  refine x_vret rfl rfl ?_
                  show jX m_X11_addHolding 99 0 0 30 [(6, .int 0), (0, .ref 31), (1, .int a1), (2, .int a2), (3, .int a3), (4, .int a4), (5, .int a5)] [] _ 0 0 _
                  refine x_aloadn (x := 31) rfl rfl ?_
                  refine x_getR (b := 32) 11 0 rfl f_11_10 rfl (congrArg Prod.fst (F.1 31 (11, 13) rfl rfl)) (F.2.1 3968 32 rfl rfl) ?_
                  refine x_getR (b := 63) 1 15 rfl f_11_159 rfl (congrArg Prod.fst (F.1 32 (1, 20) rfl rfl)) (F.2.1 4111 63 rfl rfl) ?_
                  refine x_iconst (v := 3) rfl ki_3 ?_
                  refine x_iload (x := 0) rfl rfl ?_
                  refine x_iconst (v := 0) rfl ki_0 ?_
                  refine x_iconst (v := 0) rfl ki_0 ?_
                  refine x_iconst (v := 0) rfl ki_0 ?_
                  refine x_iconst (v := 0) rfl ki_0 ?_
                  refine x_inv (N := m_X8_add) (As := [.int 3, .int 0, .int 0, .int 0, .int 0, .int 0]) (b := 63) (st := []) (d' := 98) (mc := 0) (ms := 0) (host := "") 8 rfl t_X8_add ⟨Or.inl q_11_145, i_X8_add.1, i_X8_add.2⟩ ⟨by decide, rfl⟩ (congrArg Prod.fst (F.1 63 (8, 4) rfl rfl)) rfl (by decide) rfl rfl ⟨by decide, by decide⟩ (jC.of rfl k_X8_add rfl ?_)
                  show jX m_X8_add 98 0 0 0 [(0, .ref 63), (1, .int 3), (2, .int 0), (3, .int 0), (4, .int 0), (5, .int 0), (6, .int 0)] [] _ 0 0 _
                  refine x_aloadn (x := 63) rfl rfl ?_
                  refine y_getI (v := 0) 8 3 rfl f_8_7 rfl (congrArg Prod.fst (F.1 63 (8, 4) rfl rfl)) (F.2.2.1 8067 0 rfl rfl) ?_
                  refine x_aloadn (x := 63) rfl rfl ?_
                  refine y_getI (v := 370) 8 1 rfl f_8_22 rfl (congrArg Prod.fst (F.1 63 (8, 4) rfl rfl)) (F.2.2.1 8065 370 rfl rfl) ?_
                  refine x_iclt (tgt := 12) rfl rfl (br_t (by decide) ?_)
                  refine x_aloadn (x := 63) rfl rfl ?_
                  refine y_getI (v := 0) 8 3 rfl f_8_7 rfl (congrArg Prod.fst (F.1 63 (8, 4) rfl rfl)) (F.2.2.1 8067 0 rfl rfl) ?_
                  refine x_istore (ls' := [(7, .int 0), (0, .ref 63), (1, .int 3), (2, .int 0), (3, .int 0), (4, .int 0), (5, .int 0), (6, .int 0)]) rfl rfl rfl ?_
                  refine x_aloadn (x := 63) rfl rfl ?_
                  refine x_iload (x := 0) rfl rfl ?_
                  refine x_iconst (v := 1) rfl ki_1 ?_
                  refine y_iadd (v := 1) rfl (by decide) ?_
                  refine x_putI 8 3 rfl f_8_7 rfl (jfin_no TX8 RX8 4 rfl rfl) (congrArg Prod.fst (F.1 63 (8, 4) rfl rfl)) rfl ?_
                  refine x_aloadn (x := 63) rfl rfl ?_
                  refine x_iload (x := 0) rfl rfl ?_
                  refine x_iconst (v := 0) rfl ki_0 ?_
                  refine x_iloadn (x := 3) rfl rfl ?_
                  refine x_inv (N := m_X8_put) (As := [.int 0, .int 0, .int 3]) (b := 63) (st := []) (d' := 97) (mc := 0) (ms := 0) (host := "") 8 rfl t_X8_put ⟨Or.inl q_8_29, i_X8_put.1, i_X8_put.2⟩ ⟨by decide, rfl⟩ (congrArg Prod.fst (F.1 63 (8, 4) rfl rfl)) rfl (by decide) rfl rfl ⟨by decide, by decide⟩ (jC.of rfl k_X8_put rfl ?_)
                  show jX m_X8_put 97 0 0 0 [(0, .ref 63), (1, .int 0), (2, .int 0), (3, .int 3)] [] _ 0 0 _
                  refine x_iloadn (x := 0) rfl rfl ?_
                  refine x_iflt (tgt := 38) rfl rfl (br_f (by decide) ?_)
                  refine x_iloadn (x := 0) rfl rfl ?_
                  refine x_aloadn (x := 63) rfl rfl ?_
                  refine y_getI (v := 1) 8 3 rfl f_8_7 rfl (congrArg Prod.fst (F.1 63 (8, 4) rfl rfl)) rfl ?_
                  refine x_icge (tgt := 38) rfl rfl (br_f (by decide) ?_)
                  refine x_iloadn (x := 0) rfl rfl ?_
                  refine x_iflt (tgt := 38) rfl rfl (br_f (by decide) ?_)
                  refine x_iloadn (x := 0) rfl rfl ?_
                  refine x_aloadn (x := 63) rfl rfl ?_
                  refine y_getI (v := 2) 8 0 rfl f_8_19 rfl (congrArg Prod.fst (F.1 63 (8, 4) rfl rfl)) (F.2.2.1 8064 2 rfl rfl) ?_
                  refine x_icge (tgt := 38) rfl rfl (br_f (by decide) ?_)
                  refine x_aloadn (x := 63) rfl rfl ?_
                  refine x_getR (b := 64) 8 2 rfl f_8_25 rfl (congrArg Prod.fst (F.1 63 (8, 4) rfl rfl)) (F.2.1 8066 64 rfl rfl) ?_
                  refine x_iloadn (x := 0) rfl rfl ?_
                  refine x_aloadn (x := 63) rfl rfl ?_
                  refine y_getI (v := 2) 8 0 rfl f_8_19 rfl (congrArg Prod.fst (F.1 63 (8, 4) rfl rfl)) (F.2.2.1 8064 2 rfl rfl) ?_
                  refine y_imul (v := 0) rfl (by decide) ?_
                  refine x_iloadn (x := 0) rfl rfl ?_
                  refine y_iadd (v := 0) rfl (by decide) ?_
                  refine x_iloadn (x := 3) rfl rfl ?_
                  refine y_iast (N := 740) 0 rfl (F.1 64 (100, 740) rfl rfl) rfl (jinb_of (by decide)) (by decide) ?_
                  refine x_vret rfl rfl ?_
                  show jX m_X8_add 98 0 0 34 [(7, .int 0), (0, .ref 63), (1, .int 3), (2, .int 0), (3, .int 0), (4, .int 0), (5, .int 0), (6, .int 0)] [] _ 0 0 _
                  refine x_aloadn (x := 63) rfl rfl ?_
                  refine x_iload (x := 0) rfl rfl ?_
                  refine x_iconst (v := 1) rfl ki_1 ?_
                  refine x_iloadn (x := 0) rfl rfl ?_
                  refine x_inv (N := m_X8_put) (As := [.int 0, .int 1, .int 0]) (b := 63) (st := []) (d' := 97) (mc := 0) (ms := 0) (host := "") 8 rfl t_X8_put ⟨Or.inl q_8_29, i_X8_put.1, i_X8_put.2⟩ ⟨by decide, rfl⟩ (congrArg Prod.fst (F.1 63 (8, 4) rfl rfl)) rfl (by decide) rfl rfl ⟨by decide, by decide⟩ (jC.of rfl k_X8_put rfl ?_)
                  show jX m_X8_put 97 0 0 0 [(0, .ref 63), (1, .int 0), (2, .int 1), (3, .int 0)] [] _ 0 0 _
                  refine x_iloadn (x := 0) rfl rfl ?_
                  refine x_iflt (tgt := 38) rfl rfl (br_f (by decide) ?_)
                  refine x_iloadn (x := 0) rfl rfl ?_
                  refine x_aloadn (x := 63) rfl rfl ?_
                  refine y_getI (v := 1) 8 3 rfl f_8_7 rfl (congrArg Prod.fst (F.1 63 (8, 4) rfl rfl)) rfl ?_
                  refine x_icge (tgt := 38) rfl rfl (br_f (by decide) ?_)
                  refine x_iloadn (x := 1) rfl rfl ?_
                  refine x_iflt (tgt := 38) rfl rfl (br_f (by decide) ?_)
                  refine x_iloadn (x := 1) rfl rfl ?_
                  refine x_aloadn (x := 63) rfl rfl ?_
                  refine y_getI (v := 2) 8 0 rfl f_8_19 rfl (congrArg Prod.fst (F.1 63 (8, 4) rfl rfl)) (F.2.2.1 8064 2 rfl rfl) ?_
                  refine x_icge (tgt := 38) rfl rfl (br_f (by decide) ?_)
                  refine x_aloadn (x := 63) rfl rfl ?_
                  refine x_getR (b := 64) 8 2 rfl f_8_25 rfl (congrArg Prod.fst (F.1 63 (8, 4) rfl rfl)) (F.2.1 8066 64 rfl rfl) ?_
                  refine x_iloadn (x := 0) rfl rfl ?_
                  refine x_aloadn (x := 63) rfl rfl ?_
                  refine y_getI (v := 2) 8 0 rfl f_8_19 rfl (congrArg Prod.fst (F.1 63 (8, 4) rfl rfl)) (F.2.2.1 8064 2 rfl rfl) ?_
                  refine y_imul (v := 0) rfl (by decide) ?_
                  refine x_iloadn (x := 1) rfl rfl ?_
                  refine y_iadd (v := 1) rfl (by decide) ?_
                  refine x_iloadn (x := 0) rfl rfl ?_
                  refine y_iast (N := 740) 1 rfl (F.1 64 (100, 740) rfl rfl) rfl (jinb_of (by decide)) (by decide) ?_
                  refine x_vret rfl rfl ?_
                  show jX m_X8_add 98 0 0 42 [(7, .int 0), (0, .ref 63), (1, .int 3), (2, .int 0), (3, .int 0), (4, .int 0), (5, .int 0), (6, .int 0)] [] _ 0 0 _
                  refine x_aloadn (x := 63) rfl rfl ?_
                  refine x_iload (x := 0) rfl rfl ?_
                  refine x_iconst (v := 2) rfl ki_2 ?_
                  refine x_iloadn (x := 0) rfl rfl ?_
                  refine x_inv (N := m_X8_put) (As := [.int 0, .int 2, .int 0]) (b := 63) (st := []) (d' := 97) (mc := 0) (ms := 0) (host := "") 8 rfl t_X8_put ⟨Or.inl q_8_29, i_X8_put.1, i_X8_put.2⟩ ⟨by decide, rfl⟩ (congrArg Prod.fst (F.1 63 (8, 4) rfl rfl)) rfl (by decide) rfl rfl ⟨by decide, by decide⟩ (jC.of rfl k_X8_put rfl ?_)
                  show jX m_X8_put 97 0 0 0 [(0, .ref 63), (1, .int 0), (2, .int 2), (3, .int 0)] [] _ 0 0 _
                  refine x_iloadn (x := 0) rfl rfl ?_
                  refine x_iflt (tgt := 38) rfl rfl (br_f (by decide) ?_)
                  refine x_iloadn (x := 0) rfl rfl ?_
                  refine x_aloadn (x := 63) rfl rfl ?_
                  refine y_getI (v := 1) 8 3 rfl f_8_7 rfl (congrArg Prod.fst (F.1 63 (8, 4) rfl rfl)) rfl ?_
                  refine x_icge (tgt := 38) rfl rfl (br_f (by decide) ?_)
                  refine x_iloadn (x := 2) rfl rfl ?_
                  refine x_iflt (tgt := 38) rfl rfl (br_f (by decide) ?_)
                  refine x_iloadn (x := 2) rfl rfl ?_
                  refine x_aloadn (x := 63) rfl rfl ?_
                  refine y_getI (v := 2) 8 0 rfl f_8_19 rfl (congrArg Prod.fst (F.1 63 (8, 4) rfl rfl)) (F.2.2.1 8064 2 rfl rfl) ?_
                  refine x_icge (tgt := 38) rfl rfl (br_t (by decide) ?_)
                  refine x_vret rfl rfl ?_
                  show jX m_X8_add 98 0 0 50 [(7, .int 0), (0, .ref 63), (1, .int 3), (2, .int 0), (3, .int 0), (4, .int 0), (5, .int 0), (6, .int 0)] [] _ 0 0 _
                  refine x_aloadn (x := 63) rfl rfl ?_
                  refine x_iload (x := 0) rfl rfl ?_
                  refine x_iconst (v := 3) rfl ki_3 ?_
                  refine x_iload (x := 0) rfl rfl ?_
                  refine x_inv (N := m_X8_put) (As := [.int 0, .int 3, .int 0]) (b := 63) (st := []) (d' := 97) (mc := 0) (ms := 0) (host := "") 8 rfl t_X8_put ⟨Or.inl q_8_29, i_X8_put.1, i_X8_put.2⟩ ⟨by decide, rfl⟩ (congrArg Prod.fst (F.1 63 (8, 4) rfl rfl)) rfl (by decide) rfl rfl ⟨by decide, by decide⟩ (jC.of rfl k_X8_put rfl ?_)
                  show jX m_X8_put 97 0 0 0 [(0, .ref 63), (1, .int 0), (2, .int 3), (3, .int 0)] [] _ 0 0 _
                  refine x_iloadn (x := 0) rfl rfl ?_
                  refine x_iflt (tgt := 38) rfl rfl (br_f (by decide) ?_)
                  refine x_iloadn (x := 0) rfl rfl ?_
                  refine x_aloadn (x := 63) rfl rfl ?_
                  refine y_getI (v := 1) 8 3 rfl f_8_7 rfl (congrArg Prod.fst (F.1 63 (8, 4) rfl rfl)) rfl ?_
                  refine x_icge (tgt := 38) rfl rfl (br_f (by decide) ?_)
                  refine x_iloadn (x := 3) rfl rfl ?_
                  refine x_iflt (tgt := 38) rfl rfl (br_f (by decide) ?_)
                  refine x_iloadn (x := 3) rfl rfl ?_
                  refine x_aloadn (x := 63) rfl rfl ?_
                  refine y_getI (v := 2) 8 0 rfl f_8_19 rfl (congrArg Prod.fst (F.1 63 (8, 4) rfl rfl)) (F.2.2.1 8064 2 rfl rfl) ?_
                  refine x_icge (tgt := 38) rfl rfl (br_t (by decide) ?_)
                  refine x_vret rfl rfl ?_
                  show jX m_X8_add 98 0 0 59 [(7, .int 0), (0, .ref 63), (1, .int 3), (2, .int 0), (3, .int 0), (4, .int 0), (5, .int 0), (6, .int 0)] [] _ 0 0 _
                  refine x_aloadn (x := 63) rfl rfl ?_
                  refine x_iload (x := 0) rfl rfl ?_
                  refine x_iconst (v := 4) rfl ki_4 ?_
                  refine x_iload (x := 0) rfl rfl ?_
                  refine x_inv (N := m_X8_put) (As := [.int 0, .int 4, .int 0]) (b := 63) (st := []) (d' := 97) (mc := 0) (ms := 0) (host := "") 8 rfl t_X8_put ⟨Or.inl q_8_29, i_X8_put.1, i_X8_put.2⟩ ⟨by decide, rfl⟩ (congrArg Prod.fst (F.1 63 (8, 4) rfl rfl)) rfl (by decide) rfl rfl ⟨by decide, by decide⟩ (jC.of rfl k_X8_put rfl ?_)
                  show jX m_X8_put 97 0 0 0 [(0, .ref 63), (1, .int 0), (2, .int 4), (3, .int 0)] [] _ 0 0 _
                  refine x_iloadn (x := 0) rfl rfl ?_
                  refine x_iflt (tgt := 38) rfl rfl (br_f (by decide) ?_)
                  refine x_iloadn (x := 0) rfl rfl ?_
                  refine x_aloadn (x := 63) rfl rfl ?_
                  refine y_getI (v := 1) 8 3 rfl f_8_7 rfl (congrArg Prod.fst (F.1 63 (8, 4) rfl rfl)) rfl ?_
                  refine x_icge (tgt := 38) rfl rfl (br_f (by decide) ?_)
                  refine x_iloadn (x := 4) rfl rfl ?_
                  refine x_iflt (tgt := 38) rfl rfl (br_f (by decide) ?_)
                  refine x_iloadn (x := 4) rfl rfl ?_
                  refine x_aloadn (x := 63) rfl rfl ?_
                  refine y_getI (v := 2) 8 0 rfl f_8_19 rfl (congrArg Prod.fst (F.1 63 (8, 4) rfl rfl)) (F.2.2.1 8064 2 rfl rfl) ?_
                  refine x_icge (tgt := 38) rfl rfl (br_t (by decide) ?_)
                  refine x_vret rfl rfl ?_
                  show jX m_X8_add 98 0 0 68 [(7, .int 0), (0, .ref 63), (1, .int 3), (2, .int 0), (3, .int 0), (4, .int 0), (5, .int 0), (6, .int 0)] [] _ 0 0 _
                  refine x_aloadn (x := 63) rfl rfl ?_
                  refine x_iload (x := 0) rfl rfl ?_
                  refine x_iconst (v := 5) rfl ki_5 ?_
                  refine x_iload (x := 0) rfl rfl ?_
                  refine x_inv (N := m_X8_put) (As := [.int 0, .int 5, .int 0]) (b := 63) (st := []) (d' := 97) (mc := 0) (ms := 0) (host := "") 8 rfl t_X8_put ⟨Or.inl q_8_29, i_X8_put.1, i_X8_put.2⟩ ⟨by decide, rfl⟩ (congrArg Prod.fst (F.1 63 (8, 4) rfl rfl)) rfl (by decide) rfl rfl ⟨by decide, by decide⟩ (jC.of rfl k_X8_put rfl ?_)
                  show jX m_X8_put 97 0 0 0 [(0, .ref 63), (1, .int 0), (2, .int 5), (3, .int 0)] [] _ 0 0 _
                  refine x_iloadn (x := 0) rfl rfl ?_
                  refine x_iflt (tgt := 38) rfl rfl (br_f (by decide) ?_)
                  refine x_iloadn (x := 0) rfl rfl ?_
                  refine x_aloadn (x := 63) rfl rfl ?_
                  refine y_getI (v := 1) 8 3 rfl f_8_7 rfl (congrArg Prod.fst (F.1 63 (8, 4) rfl rfl)) rfl ?_
                  refine x_icge (tgt := 38) rfl rfl (br_f (by decide) ?_)
                  refine x_iloadn (x := 5) rfl rfl ?_
                  refine x_iflt (tgt := 38) rfl rfl (br_f (by decide) ?_)
                  refine x_iloadn (x := 5) rfl rfl ?_
                  refine x_aloadn (x := 63) rfl rfl ?_
                  refine y_getI (v := 2) 8 0 rfl f_8_19 rfl (congrArg Prod.fst (F.1 63 (8, 4) rfl rfl)) (F.2.2.1 8064 2 rfl rfl) ?_
                  refine x_icge (tgt := 38) rfl rfl (br_t (by decide) ?_)
                  refine x_vret rfl rfl ?_
                  show jX m_X8_add 98 0 0 77 [(7, .int 0), (0, .ref 63), (1, .int 3), (2, .int 0), (3, .int 0), (4, .int 0), (5, .int 0), (6, .int 0)] [] _ 0 0 _
                  refine x_vret rfl rfl ?_
                  show jX m_X11_addHolding 99 0 0 47 [(6, .int 0), (0, .ref 31), (1, .int a1), (2, .int a2), (3, .int a3), (4, .int a4), (5, .int a5)] [] _ 0 0 _
                  refine x_iload (x := 0) rfl rfl ?_
                  refine x_iret rfl rfl ?_
                  show jX m_X11_split 100 0 0 94 [(0, .ref 31), (1, .int a1), (2, .int a2), (3, .int a3), (4, .int a4), (5, .int a5)] [.int 0, .ref 31] _ 0 0 _
                  refine x_inv (N := m_X11_accept) (As := [.int 0]) (b := 31) (st := []) (d' := 99) (mc := 0) (ms := 0) (host := "") 11 rfl t_X11_accept ⟨Or.inl q_11_165, i_X11_accept.1, i_X11_accept.2⟩ ⟨by decide, rfl⟩ (congrArg Prod.fst (F.1 31 (11, 13) rfl rfl)) rfl (by decide) rfl rfl ⟨by decide, by decide⟩ (jC.of rfl k_X11_accept rfl ?_)
                  show jX m_X11_accept 99 0 0 0 [(0, .ref 31), (1, .int 0)] [] _ 0 0 _
                  refine x_aloadn (x := 31) rfl rfl ?_
                  refine x_iconst (v := 0) rfl ki_0 ?_
                  refine x_putI 11 12 rfl f_11_94 rfl (jfin_no TX11 RX11 13 rfl rfl) (congrArg Prod.fst (F.1 31 (11, 13) rfl rfl)) rfl ?_
                  refine x_aloadn (x := 31) rfl rfl ?_
                  refine x_getR (b := 32) 11 0 rfl f_11_10 rfl (congrArg Prod.fst (F.1 31 (11, 13) rfl rfl)) (F.2.1 3968 32 rfl rfl) ?_
                  refine x_dup rfl rfl ?_
                  refine y_getI (v := 1) 1 19 rfl f_11_528 rfl (congrArg Prod.fst (F.1 32 (1, 20) rfl rfl)) (F.2.2.1 4115 1 rfl rfl) ?_
                  refine x_iconst (v := 1) rfl ki_1 ?_
                  refine y_iadd (v := 2) rfl (by decide) ?_
                  refine x_putI 1 19 rfl f_11_528 rfl (jfin_no TX1 RX1 20 rfl rfl) (congrArg Prod.fst (F.1 32 (1, 20) rfl rfl)) rfl ?_
                  refine x_iloadn (x := 0) rfl rfl ?_
                  refine x_iret rfl rfl ?_
                  show jX m_X11_split 100 0 0 97 [(0, .ref 31), (1, .int a1), (2, .int a2), (3, .int a3), (4, .int a4), (5, .int a5)] [.int 0] _ 0 0 _
                  refine x_iret rfl rfl ?_
                  exact jqe (show sp_split a1 a2 a3 a4 a5 = 0 by unfold sp_split; (repeat' split) <;> first | rfl | (exfalso; omega)) (hQ _ (by repeat (first | exact FM | refine jFb_si rfl ?_ | refine jFb_sl rfl ?_ | refine jFb_ci rfl ?_ | refine jFb_cl rfl ?_ | refine jFb_sr rfl ?_)) (by repeat (first | exact O | refine jOl_si rfl ?_ | refine jOl_sl rfl ?_ | refine jOl_ci rfl ?_ | refine jOl_cl rfl ?_ | refine jOl_sr rfl ?_)))
          ·
            refine x_aloadn (x := 31) rfl rfl ?_
            refine x_iconst (v := (-1)) rfl ki_m1 ?_
            refine x_inv (N := m_X11_refuse) (As := [.int (-1)]) (b := 31) (st := []) (d' := 99) (mc := 0) (ms := 0) (host := "") 11 rfl t_X11_refuse ⟨Or.inl q_11_206, i_X11_refuse.1, i_X11_refuse.2⟩ ⟨by decide, rfl⟩ (congrArg Prod.fst (F.1 31 (11, 13) rfl rfl)) rfl (by decide) rfl rfl ⟨by decide, by decide⟩ (jC.of rfl k_X11_refuse rfl ?_)
            show jX m_X11_refuse 99 0 0 0 [(0, .ref 31), (1, .int (-1))] [] _ 0 0 _
            refine x_aloadn (x := 31) rfl rfl ?_
            refine x_iloadn (x := (-1)) rfl rfl ?_
            refine x_putI 11 12 rfl f_11_94 rfl (jfin_no TX11 RX11 13 rfl rfl) (congrArg Prod.fst (F.1 31 (11, 13) rfl rfl)) rfl ?_
            refine x_iloadn (x := (-1)) rfl rfl ?_
            refine x_iret rfl rfl ?_
            show jX m_X11_split 100 0 0 46 [(0, .ref 31), (1, .int a1), (2, .int a2), (3, .int a3), (4, .int a4), (5, .int a5)] [.int (-1)] _ 0 0 _
            refine x_iret rfl rfl ?_
            exact jqe (show sp_split a1 a2 a3 a4 a5 = (-1) by unfold sp_split; (repeat' split) <;> first | rfl | (exfalso; omega)) (hQ _ (by repeat (first | exact FM | refine jFb_si rfl ?_ | refine jFb_sl rfl ?_ | refine jFb_ci rfl ?_ | refine jFb_cl rfl ?_ | refine jFb_sr rfl ?_)) (by repeat (first | exact O | refine jOl_si rfl ?_ | refine jOl_sl rfl ?_ | refine jOl_ci rfl ?_ | refine jOl_cl rfl ?_ | refine jOl_sr rfl ?_)))
set_option maxRecDepth 100000 in
set_option maxHeartbeats 40000000 in
theorem pm_split (a1 a2 a3 a4 a5 : Int32) {xs : Nat → Int32} {h : jH} {Q : Option Value → jH → Prop} (F : jFb 125 h) (O : jOl 7 xs h) (hQ : ∀ h', jOl 7 xs h' → Q (some (.int (sp_split a1 a2 a3 a4 a5))) h') : jC m_X12_split 100 0 0 [.ref 125, .int a1, .int a2, .int a3, .int a4, .int a5] h Q := by
  refine jC.of rfl k_X12_split rfl ?_
  show jX m_X12_split 100 0 0 0 [(0, .ref 125), (1, .int a1), (2, .int a2), (3, .int a3), (4, .int a4), (5, .int a5)] [] _ 0 0 _
  refine x_aloadn (x := 125) rfl rfl ?_
  refine x_iconst (v := 0) rfl ki_0 ?_
  refine x_putI 12 0 rfl f_12_180 rfl (jfin_no TX12 RX12 92 rfl rfl) (congrArg Prod.fst (F.1 125 (12, 92) rfl rfl)) rfl ?_
  refine x_iloadn (x := a3) rfl rfl ?_
  refine x_i2l rfl ?_
  refine x_lconst (v := 1) rfl kl_1 ?_
  refine x_ldc2 (v := 100) rfl z_12_331 ?_
  refine x_inst (N := m_X12_in) (As := [.long (a3.toInt64), .long 1, .long 100]) (st := []) (d' := 99) (mc := 0) (ms := 0) (host := "") rfl t_X12_in ⟨Or.inl q_12_188, s_X12_in⟩ rfl (by decide) rfl rfl ⟨by decide, by decide⟩ (c_X12_in (jt_l _) (by decide) (by decide) ?_)
  show jX m_X12_split 100 0 0 14 [(0, .ref 125), (1, .int a1), (2, .int a2), (3, .int a3), (4, .int a4), (5, .int a5)] [.int (jp (1 ≤ a3.toInt ∧ a3.toInt ≤ 100))] _ 0 0 _
  refine x_ifeq (tgt := 46) rfl rfl (jpe ⟨fun c1 => ?_, fun c1 => ?_⟩)
  ·
    refine x_aloadn (x := 125) rfl rfl ?_
    refine x_iconst (v := (-1)) rfl ki_m1 ?_
    refine x_inv (N := m_X12_told) (As := [.int (-1)]) (b := 125) (st := []) (d' := 99) (mc := 0) (ms := 0) (host := "") 12 rfl t_X12_told ⟨Or.inl q_12_197, i_X12_told.1, i_X12_told.2⟩ ⟨by decide, rfl⟩ (congrArg Prod.fst (F.1 125 (12, 92) rfl rfl)) rfl (by decide) rfl rfl ⟨by decide, by decide⟩ (jC.of rfl k_X12_told rfl ?_)
    show jX m_X12_told 99 0 0 0 [(0, .ref 125), (1, .int (-1))] [] _ 0 0 _
    refine x_aloadn (x := 125) rfl rfl ?_
    refine x_iloadn (x := (-1)) rfl rfl ?_
    refine x_ifge (tgt := 9) rfl rfl (br_f (by decide) ?_)
    refine x_iloadn (x := (-1)) rfl rfl ?_
    refine x_goto (tgt := 10) rfl rfl ?_
    refine x_putI 12 1 rfl f_12_183 rfl (jfin_no TX12 RX12 92 rfl rfl) (congrArg Prod.fst (F.1 125 (12, 92) rfl rfl)) rfl ?_
    refine x_iloadn (x := (-1)) rfl rfl ?_
    refine x_iret rfl rfl ?_
    show jX m_X12_split 100 0 0 51 [(0, .ref 125), (1, .int a1), (2, .int a2), (3, .int a3), (4, .int a4), (5, .int a5)] [.int (-1)] _ 0 0 _
    refine x_iret rfl rfl ?_
    exact jqe (show sp_split a1 a2 a3 a4 a5 = (-1) by unfold sp_split; (repeat' split) <;> first | rfl | (exfalso; omega)) (hQ _ (by repeat (first | exact O | refine jOl_si rfl ?_ | refine jOl_sl rfl ?_ | refine jOl_ci rfl ?_ | refine jOl_cl rfl ?_ | refine jOl_sr rfl ?_)))
  ·
    refine x_iloadn (x := a2) rfl rfl ?_
    refine x_i2l rfl ?_
    refine x_lconst (v := 1) rfl kl_1 ?_
    refine x_iloadn (x := a3) rfl rfl ?_
    refine x_i2l rfl ?_
    refine x_lconst (v := 1) rfl kl_1 ?_
    refine x_lsub rfl ?_
    refine x_inst (N := m_X12_in) (As := [.long (a2.toInt64), .long 1, .long ((a3.toInt64) - 1)]) (st := []) (d' := 99) (mc := 0) (ms := 0) (host := "") rfl t_X12_in ⟨Or.inl q_12_188, s_X12_in⟩ rfl (by decide) rfl rfl ⟨by decide, by decide⟩ (c_X12_in (jt_l _) (by decide) (jt_l1 _) ?_)
    show jX m_X12_split 100 0 0 27 [(0, .ref 125), (1, .int a1), (2, .int a2), (3, .int a3), (4, .int a4), (5, .int a5)] [.int (jp (1 ≤ a2.toInt ∧ a2.toInt ≤ a3.toInt - 1))] _ 0 0 _
    refine x_ifeq (tgt := 46) rfl rfl (jpe ⟨fun c2 => ?_, fun c2 => ?_⟩)
    ·
      refine x_aloadn (x := 125) rfl rfl ?_
      refine x_iconst (v := (-1)) rfl ki_m1 ?_
      refine x_inv (N := m_X12_told) (As := [.int (-1)]) (b := 125) (st := []) (d' := 99) (mc := 0) (ms := 0) (host := "") 12 rfl t_X12_told ⟨Or.inl q_12_197, i_X12_told.1, i_X12_told.2⟩ ⟨by decide, rfl⟩ (congrArg Prod.fst (F.1 125 (12, 92) rfl rfl)) rfl (by decide) rfl rfl ⟨by decide, by decide⟩ (jC.of rfl k_X12_told rfl ?_)
      show jX m_X12_told 99 0 0 0 [(0, .ref 125), (1, .int (-1))] [] _ 0 0 _
      refine x_aloadn (x := 125) rfl rfl ?_
      refine x_iloadn (x := (-1)) rfl rfl ?_
      refine x_ifge (tgt := 9) rfl rfl (br_f (by decide) ?_)
      refine x_iloadn (x := (-1)) rfl rfl ?_
      refine x_goto (tgt := 10) rfl rfl ?_
      refine x_putI 12 1 rfl f_12_183 rfl (jfin_no TX12 RX12 92 rfl rfl) (congrArg Prod.fst (F.1 125 (12, 92) rfl rfl)) rfl ?_
      refine x_iloadn (x := (-1)) rfl rfl ?_
      refine x_iret rfl rfl ?_
      show jX m_X12_split 100 0 0 51 [(0, .ref 125), (1, .int a1), (2, .int a2), (3, .int a3), (4, .int a4), (5, .int a5)] [.int (-1)] _ 0 0 _
      refine x_iret rfl rfl ?_
      exact jqe (show sp_split a1 a2 a3 a4 a5 = (-1) by unfold sp_split; (repeat' split) <;> first | rfl | (exfalso; omega)) (hQ _ (by repeat (first | exact O | refine jOl_si rfl ?_ | refine jOl_sl rfl ?_ | refine jOl_ci rfl ?_ | refine jOl_cl rfl ?_ | refine jOl_sr rfl ?_)))
    ·
      refine x_iload (x := a4) rfl rfl ?_
      refine x_inst (N := m_X12_isDay) (As := [.int a4]) (st := []) (d' := 99) (mc := 0) (ms := 0) (host := "") rfl t_X12_isDay ⟨Or.inl q_12_273, s_X12_isDay⟩ rfl (by decide) rfl rfl ⟨by decide, by decide⟩ (c_X12_isDay (x := a4) ?_)
      show jX m_X12_split 100 0 0 35 [(0, .ref 125), (1, .int a1), (2, .int a2), (3, .int a3), (4, .int a4), (5, .int a5)] [.int (jp (0 ≤ a4.toInt ∧ a4.toInt ≤ 146399))] _ 0 0 _
      refine x_ifeq (tgt := 46) rfl rfl (jpe ⟨fun c3 => ?_, fun c3 => ?_⟩)
      ·
        refine x_aloadn (x := 125) rfl rfl ?_
        refine x_iconst (v := (-1)) rfl ki_m1 ?_
        refine x_inv (N := m_X12_told) (As := [.int (-1)]) (b := 125) (st := []) (d' := 99) (mc := 0) (ms := 0) (host := "") 12 rfl t_X12_told ⟨Or.inl q_12_197, i_X12_told.1, i_X12_told.2⟩ ⟨by decide, rfl⟩ (congrArg Prod.fst (F.1 125 (12, 92) rfl rfl)) rfl (by decide) rfl rfl ⟨by decide, by decide⟩ (jC.of rfl k_X12_told rfl ?_)
        show jX m_X12_told 99 0 0 0 [(0, .ref 125), (1, .int (-1))] [] _ 0 0 _
        refine x_aloadn (x := 125) rfl rfl ?_
        refine x_iloadn (x := (-1)) rfl rfl ?_
        refine x_ifge (tgt := 9) rfl rfl (br_f (by decide) ?_)
        refine x_iloadn (x := (-1)) rfl rfl ?_
        refine x_goto (tgt := 10) rfl rfl ?_
        refine x_putI 12 1 rfl f_12_183 rfl (jfin_no TX12 RX12 92 rfl rfl) (congrArg Prod.fst (F.1 125 (12, 92) rfl rfl)) rfl ?_
        refine x_iloadn (x := (-1)) rfl rfl ?_
        refine x_iret rfl rfl ?_
        show jX m_X12_split 100 0 0 51 [(0, .ref 125), (1, .int a1), (2, .int a2), (3, .int a3), (4, .int a4), (5, .int a5)] [.int (-1)] _ 0 0 _
        refine x_iret rfl rfl ?_
        exact jqe (show sp_split a1 a2 a3 a4 a5 = (-1) by unfold sp_split; (repeat' split) <;> first | rfl | (exfalso; omega)) (hQ _ (by repeat (first | exact O | refine jOl_si rfl ?_ | refine jOl_sl rfl ?_ | refine jOl_ci rfl ?_ | refine jOl_cl rfl ?_ | refine jOl_sr rfl ?_)))
      ·
        refine x_iload (x := a5) rfl rfl ?_
        refine x_inst (N := m_X12_isDay) (As := [.int a5]) (st := []) (d' := 99) (mc := 0) (ms := 0) (host := "") rfl t_X12_isDay ⟨Or.inl q_12_273, s_X12_isDay⟩ rfl (by decide) rfl rfl ⟨by decide, by decide⟩ (c_X12_isDay (x := a5) ?_)
        show jX m_X12_split 100 0 0 43 [(0, .ref 125), (1, .int a1), (2, .int a2), (3, .int a3), (4, .int a4), (5, .int a5)] [.int (jp (0 ≤ a5.toInt ∧ a5.toInt ≤ 146399))] _ 0 0 _
        refine x_ifne (tgt := 52) rfl rfl (jpn ⟨fun c4 => ?_, fun c4 => ?_⟩)
        ·
          refine x_aloadn (x := 125) rfl rfl ?_
          refine x_iloadn (x := a1) rfl rfl ?_
          refine x_inv (N := m_X12_isHolding) (As := [.int a1]) (b := 125) (st := []) (d' := 99) (mc := 0) (ms := 0) (host := "") 12 rfl t_X12_isHolding ⟨Or.inl q_12_811, i_X12_isHolding.1, i_X12_isHolding.2⟩ ⟨by decide, rfl⟩ (congrArg Prod.fst (F.1 125 (12, 92) rfl rfl)) rfl (by decide) rfl rfl ⟨by decide, by decide⟩ (jC.of rfl k_X12_isHolding rfl ?_)
          show jX m_X12_isHolding 99 0 0 0 [(0, .ref 125), (1, .int a1)] [] _ 0 0 _
          refine x_iloadn (x := a1) rfl rfl ?_
          refine x_i2l rfl ?_
          refine x_lconst (v := 0) rfl kl_0 ?_
          refine x_aloadn (x := 125) rfl rfl ?_
          refine x_getR (b := 126) 12 2 rfl f_12_8 rfl (congrArg Prod.fst (F.1 125 (12, 92) rfl rfl)) (F.2.1 16002 126 rfl rfl) ?_
          refine x_bipush (v := 7) rfl kb_7 ?_
          refine y_iald (v := 0) (N := 50660) 7 rfl (F.1 126 (100, 50660) rfl rfl) (jinb_of (by decide)) (by decide) (F.2.2.2.1 126 rfl rfl 7).1 ?_
          refine y_i2l (v := 0) rfl (by decide) ?_
          refine x_lconst (v := 1) rfl kl_1 ?_
          refine y_lsub (v := (-1)) rfl (by decide) ?_
          refine x_inst (N := m_X12_in) (As := [.long (a1.toInt64), .long 0, .long (-1)]) (st := []) (d' := 98) (mc := 0) (ms := 0) (host := "") rfl t_X12_in ⟨Or.inl q_12_188, s_X12_in⟩ rfl (by decide) rfl rfl ⟨by decide, by decide⟩ (c_X12_in (jt_l _) (by decide) (by decide) ?_)
          show jX m_X12_isHolding 99 0 0 16 [(0, .ref 125), (1, .int a1)] [.int (jp (0 ≤ a1.toInt ∧ a1.toInt ≤ (-1)))] _ 0 0 _
          refine x_zret rfl rfl (by first | decide | exact jp_01 _) ?_
          show jX m_X12_split 100 0 0 57 [(0, .ref 125), (1, .int a1), (2, .int a2), (3, .int a3), (4, .int a4), (5, .int a5)] [.int (jp (0 ≤ a1.toInt ∧ a1.toInt ≤ (-1)))] _ 0 0 _
          refine x_ifne (tgt := 67) rfl rfl (jpn ⟨fun c5 => ?_, fun c5 => ?_⟩)
          ·
            refine x_aloadn (x := 125) rfl rfl ?_
            refine x_getR (b := 126) 12 2 rfl f_12_8 rfl (congrArg Prod.fst (F.1 125 (12, 92) rfl rfl)) (F.2.1 16002 126 rfl rfl) ?_
            refine x_bipush (v := 7) rfl kb_7 ?_
            refine y_iald (v := 0) (N := 50660) 7 rfl (F.1 126 (100, 50660) rfl rfl) (jinb_of (by decide)) (by decide) (F.2.2.2.1 126 rfl rfl 7).1 ?_
            refine x_bipush (v := 40) rfl kb_40 ?_
            refine x_icne (tgt := 86) rfl rfl (bn_t (by decide) ?_)
            refine x_ldcw (v := 47660) rfl z_12_799 ?_
            refine x_bipush (v := 6) rfl kb_6 ?_
            refine x_aloadn (x := 125) rfl rfl ?_
            refine x_getR (b := 126) 12 2 rfl f_12_8 rfl (congrArg Prod.fst (F.1 125 (12, 92) rfl rfl)) (F.2.1 16002 126 rfl rfl) ?_
            refine x_bipush (v := 9) rfl kb_9 ?_
            refine y_iald (v := 0) (N := 50660) 9 rfl (F.1 126 (100, 50660) rfl rfl) (jinb_of (by decide)) (by decide) (F.2.2.2.1 126 rfl rfl 9).1 ?_
            refine y_imul (v := 0) rfl (by decide) ?_
            refine y_iadd (v := 47660) rfl (by decide) ?_
            refine x_istore (ls' := [(6, .int 47660), (0, .ref 125), (1, .int a1), (2, .int a2), (3, .int a3), (4, .int a4), (5, .int a5)]) rfl rfl rfl ?_
            refine x_aloadn (x := 125) rfl rfl ?_
            refine x_getR (b := 126) 12 2 rfl f_12_8 rfl (congrArg Prod.fst (F.1 125 (12, 92) rfl rfl)) (F.2.1 16002 126 rfl rfl) ?_
            refine x_iload (x := 47660) rfl rfl ?_
            refine x_aloadn (x := 125) rfl rfl ?_
            refine x_getR (b := 126) 12 2 rfl f_12_8 rfl (congrArg Prod.fst (F.1 125 (12, 92) rfl rfl)) (F.2.1 16002 126 rfl rfl) ?_
            refine x_bipush (v := 7) rfl kb_7 ?_
            refine y_iald (v := 0) (N := 50660) 7 rfl (F.1 126 (100, 50660) rfl rfl) (jinb_of (by decide)) (by decide) (F.2.2.2.1 126 rfl rfl 7).1 ?_
            refine y_iast (N := 50660) 47660 rfl (F.1 126 (100, 50660) rfl rfl) rfl (jinb_of (by decide)) (by decide) ?_
            refine x_aloadn (x := 125) rfl rfl ?_
            refine x_getR (b := 126) 12 2 rfl f_12_8 rfl (congrArg Prod.fst (F.1 125 (12, 92) rfl rfl)) (F.2.1 16002 126 rfl rfl) ?_
            refine x_iload (x := 47660) rfl rfl ?_
            refine x_iconst (v := 1) rfl ki_1 ?_
            refine y_iadd (v := 47661) rfl (by decide) ?_
            refine x_iloadn (x := a1) rfl rfl ?_
            refine y_iast (N := 50660) 47661 rfl (F.1 126 (100, 50660) rfl rfl) rfl (jinb_of (by decide)) (by decide) ?_
            refine x_aloadn (x := 125) rfl rfl ?_
            refine x_getR (b := 126) 12 2 rfl f_12_8 rfl (congrArg Prod.fst (F.1 125 (12, 92) rfl rfl)) (F.2.1 16002 126 rfl rfl) ?_
            refine x_iload (x := 47660) rfl rfl ?_
            refine x_iconst (v := 2) rfl ki_2 ?_
            refine y_iadd (v := 47662) rfl (by decide) ?_
            refine x_iloadn (x := a2) rfl rfl ?_
            refine y_iast (N := 50660) 47662 rfl (F.1 126 (100, 50660) rfl rfl) rfl (jinb_of (by decide)) (by decide) ?_
            refine x_aloadn (x := 125) rfl rfl ?_
            refine x_getR (b := 126) 12 2 rfl f_12_8 rfl (congrArg Prod.fst (F.1 125 (12, 92) rfl rfl)) (F.2.1 16002 126 rfl rfl) ?_
            refine x_iload (x := 47660) rfl rfl ?_
            refine x_iconst (v := 3) rfl ki_3 ?_
            refine y_iadd (v := 47663) rfl (by decide) ?_
            refine x_iloadn (x := a3) rfl rfl ?_
            refine y_iast (N := 50660) 47663 rfl (F.1 126 (100, 50660) rfl rfl) rfl (jinb_of (by decide)) (by decide) ?_
            refine x_aloadn (x := 125) rfl rfl ?_
            refine x_getR (b := 126) 12 2 rfl f_12_8 rfl (congrArg Prod.fst (F.1 125 (12, 92) rfl rfl)) (F.2.1 16002 126 rfl rfl) ?_
            refine x_iload (x := 47660) rfl rfl ?_
            refine x_iconst (v := 4) rfl ki_4 ?_
            refine y_iadd (v := 47664) rfl (by decide) ?_
            refine x_iload (x := a4) rfl rfl ?_
            refine y_iast (N := 50660) 47664 rfl (F.1 126 (100, 50660) rfl rfl) rfl (jinb_of (by decide)) (by decide) ?_
            refine x_aloadn (x := 125) rfl rfl ?_
            refine x_getR (b := 126) 12 2 rfl f_12_8 rfl (congrArg Prod.fst (F.1 125 (12, 92) rfl rfl)) (F.2.1 16002 126 rfl rfl) ?_
            refine x_iload (x := 47660) rfl rfl ?_
            refine x_iconst (v := 5) rfl ki_5 ?_
            refine y_iadd (v := 47665) rfl (by decide) ?_
            refine x_iload (x := a5) rfl rfl ?_
            refine y_iast (N := 50660) 47665 rfl (F.1 126 (100, 50660) rfl rfl) rfl (jinb_of (by decide)) (by decide) ?_
            refine x_aloadn (x := 125) rfl rfl ?_
            refine x_getR (b := 126) 12 2 rfl f_12_8 rfl (congrArg Prod.fst (F.1 125 (12, 92) rfl rfl)) (F.2.1 16002 126 rfl rfl) ?_
            refine x_bipush (v := 9) rfl kb_9 ?_
            refine x_dup2 rfl rfl rfl ?_
            refine y_iald (v := 0) (N := 50660) 9 rfl (F.1 126 (100, 50660) rfl rfl) (jinb_of (by decide)) (by decide) (F.2.2.2.1 126 rfl rfl 9).1 ?_
            refine x_iconst (v := 1) rfl ki_1 ?_
            refine y_iadd (v := 1) rfl (by decide) ?_
            refine y_iast (N := 50660) 9 rfl (F.1 126 (100, 50660) rfl rfl) rfl (jinb_of (by decide)) (by decide) ?_
            refine x_aloadn (x := 125) rfl rfl ?_
            refine x_getR (b := 126) 12 2 rfl f_12_8 rfl (congrArg Prod.fst (F.1 125 (12, 92) rfl rfl)) (F.2.1 16002 126 rfl rfl) ?_
            refine x_bipush (v := 7) rfl kb_7 ?_
            refine x_dup2 rfl rfl rfl ?_
            refine y_iald (v := 0) (N := 50660) 7 rfl (F.1 126 (100, 50660) rfl rfl) (jinb_of (by decide)) (by decide) (F.2.2.2.1 126 rfl rfl 7).1 ?_
            refine x_iconst (v := 1) rfl ki_1 ?_
            refine y_iadd (v := 1) rfl (by decide) ?_
            refine y_iast (N := 50660) 7 rfl (F.1 126 (100, 50660) rfl rfl) rfl (jinb_of (by decide)) (by decide) ?_
            refine x_aloadn (x := 125) rfl rfl ?_
            refine x_iconst (v := 3) rfl ki_3 ?_
            refine x_aloadn (x := 125) rfl rfl ?_
            refine x_getR (b := 126) 12 2 rfl f_12_8 rfl (congrArg Prod.fst (F.1 125 (12, 92) rfl rfl)) (F.2.1 16002 126 rfl rfl) ?_
            refine x_bipush (v := 7) rfl kb_7 ?_
            refine y_iald (v := 1) (N := 50660) 7 rfl (F.1 126 (100, 50660) rfl rfl) (jinb_of (by decide)) (by decide) rfl ?_
            refine x_iconst (v := 1) rfl ki_1 ?_
            refine y_isub (v := 0) rfl (by decide) ?_
            refine x_inv (N := m_X12_thing) (As := [.int 3, .int 0]) (b := 125) (st := []) (d' := 99) (mc := 0) (ms := 0) (host := "") 12 rfl t_X12_thing ⟨Or.inl q_12_289, i_X12_thing.1, i_X12_thing.2⟩ ⟨by decide, rfl⟩ (congrArg Prod.fst (F.1 125 (12, 92) rfl rfl)) rfl (by decide) rfl rfl ⟨by decide, by decide⟩ (jC.of rfl k_X12_thing rfl ?_)
            show jX m_X12_thing 99 0 0 0 [(0, .ref 125), (1, .int 3), (2, .int 0)] [] _ 0 0 _
            refine x_ldc (v := 49920) rfl z_12_194 ?_
            refine x_iconst (v := 2) rfl ki_2 ?_
            refine x_aloadn (x := 125) rfl rfl ?_
            refine x_getR (b := 126) 12 2 rfl f_12_8 rfl (congrArg Prod.fst (F.1 125 (12, 92) rfl rfl)) (F.2.1 16002 126 rfl rfl) ?_
            refine x_bipush (v := 16) rfl kb_16 ?_
            refine y_iald (v := 0) (N := 50660) 16 rfl (F.1 126 (100, 50660) rfl rfl) (jinb_of (by decide)) (by decide) (F.2.2.2.1 126 rfl rfl 16).1 ?_
            refine y_imul (v := 0) rfl (by decide) ?_
            refine y_iadd (v := 49920) rfl (by decide) ?_
            refine x_istoren (ls' := [(3, .int 49920), (0, .ref 125), (1, .int 3), (2, .int 0)]) rfl rfl rfl ?_
            refine x_aloadn (x := 125) rfl rfl ?_
            refine x_getR (b := 126) 12 2 rfl f_12_8 rfl (congrArg Prod.fst (F.1 125 (12, 92) rfl rfl)) (F.2.1 16002 126 rfl rfl) ?_
            refine x_iloadn (x := 49920) rfl rfl ?_
            refine x_iloadn (x := 3) rfl rfl ?_
            refine y_iast (N := 50660) 49920 rfl (F.1 126 (100, 50660) rfl rfl) rfl (jinb_of (by decide)) (by decide) ?_
            refine x_aloadn (x := 125) rfl rfl ?_
            refine x_getR (b := 126) 12 2 rfl f_12_8 rfl (congrArg Prod.fst (F.1 125 (12, 92) rfl rfl)) (F.2.1 16002 126 rfl rfl) ?_
            refine x_iloadn (x := 49920) rfl rfl ?_
            refine x_iconst (v := 1) rfl ki_1 ?_
            refine y_iadd (v := 49921) rfl (by decide) ?_
            refine x_iloadn (x := 0) rfl rfl ?_
            refine y_iast (N := 50660) 49921 rfl (F.1 126 (100, 50660) rfl rfl) rfl (jinb_of (by decide)) (by decide) ?_
            refine x_aloadn (x := 125) rfl rfl ?_
            refine x_getR (b := 126) 12 2 rfl f_12_8 rfl (congrArg Prod.fst (F.1 125 (12, 92) rfl rfl)) (F.2.1 16002 126 rfl rfl) ?_
            refine x_bipush (v := 16) rfl kb_16 ?_
            refine x_dup2 rfl rfl rfl ?_
            refine y_iald (v := 0) (N := 50660) 16 rfl (F.1 126 (100, 50660) rfl rfl) (jinb_of (by decide)) (by decide) (F.2.2.2.1 126 rfl rfl 16).1 ?_
            refine x_iconst (v := 1) rfl ki_1 ?_
            refine y_iadd (v := 1) rfl (by decide) ?_
            refine y_iast (N := 50660) 16 rfl (F.1 126 (100, 50660) rfl rfl) rfl (jinb_of (by decide)) (by decide) ?_
            refine x_vret rfl rfl ?_
            show jX m_X12_split 100 0 0 204 [(6, .int 47660), (0, .ref 125), (1, .int a1), (2, .int a2), (3, .int a3), (4, .int a4), (5, .int a5)] [] _ 0 0 _
            refine x_aloadn (x := 125) rfl rfl ?_
            refine x_aloadn (x := 125) rfl rfl ?_
            refine x_getR (b := 126) 12 2 rfl f_12_8 rfl (congrArg Prod.fst (F.1 125 (12, 92) rfl rfl)) (F.2.1 16002 126 rfl rfl) ?_
            refine x_bipush (v := 7) rfl kb_7 ?_
            refine y_iald (v := 1) (N := 50660) 7 rfl (F.1 126 (100, 50660) rfl rfl) (jinb_of (by decide)) (by decide) rfl ?_
            refine x_iconst (v := 1) rfl ki_1 ?_
            refine y_isub (v := 0) rfl (by decide) ?_
            refine x_inv (N := m_X12_told) (As := [.int 0]) (b := 125) (st := []) (d' := 99) (mc := 0) (ms := 0) (host := "") 12 rfl t_X12_told ⟨Or.inl q_12_197, i_X12_told.1, i_X12_told.2⟩ ⟨by decide, rfl⟩ (congrArg Prod.fst (F.1 125 (12, 92) rfl rfl)) rfl (by decide) rfl rfl ⟨by decide, by decide⟩ (jC.of rfl k_X12_told rfl ?_)
            show jX m_X12_told 99 0 0 0 [(0, .ref 125), (1, .int 0)] [] _ 0 0 _
            refine x_aloadn (x := 125) rfl rfl ?_
            refine x_iloadn (x := 0) rfl rfl ?_
            refine x_ifge (tgt := 9) rfl rfl (br_t (by decide) ?_)
            refine x_iconst (v := 0) rfl ki_0 ?_
            refine x_putI 12 1 rfl f_12_183 rfl (jfin_no TX12 RX12 92 rfl rfl) (congrArg Prod.fst (F.1 125 (12, 92) rfl rfl)) rfl ?_
            refine x_iloadn (x := 0) rfl rfl ?_
            refine x_iret rfl rfl ?_
            show jX m_X12_split 100 0 0 217 [(6, .int 47660), (0, .ref 125), (1, .int a1), (2, .int a2), (3, .int a3), (4, .int a4), (5, .int a5)] [.int 0] _ 0 0 _
            refine x_iret rfl rfl ?_
            exact jqe (show sp_split a1 a2 a3 a4 a5 = 0 by unfold sp_split; (repeat' split) <;> first | rfl | (exfalso; omega)) (hQ _ (by repeat (first | exact O | refine jOl_si rfl ?_ | refine jOl_sl rfl ?_ | refine jOl_ci rfl ?_ | refine jOl_cl rfl ?_ | refine jOl_sr rfl ?_)))
          ·
            refine x_aloadn (x := 125) rfl rfl ?_
            refine x_bipush (v := (-2)) rfl kb_m2 ?_
            refine x_inv (N := m_X12_told) (As := [.int (-2)]) (b := 125) (st := []) (d' := 99) (mc := 0) (ms := 0) (host := "") 12 rfl t_X12_told ⟨Or.inl q_12_197, i_X12_told.1, i_X12_told.2⟩ ⟨by decide, rfl⟩ (congrArg Prod.fst (F.1 125 (12, 92) rfl rfl)) rfl (by decide) rfl rfl ⟨by decide, by decide⟩ (jC.of rfl k_X12_told rfl ?_)
            show jX m_X12_told 99 0 0 0 [(0, .ref 125), (1, .int (-2))] [] _ 0 0 _
            refine x_aloadn (x := 125) rfl rfl ?_
            refine x_iloadn (x := (-2)) rfl rfl ?_
            refine x_ifge (tgt := 9) rfl rfl (br_f (by decide) ?_)
            refine x_iloadn (x := (-2)) rfl rfl ?_
            refine x_goto (tgt := 10) rfl rfl ?_
            refine x_putI 12 1 rfl f_12_183 rfl (jfin_no TX12 RX12 92 rfl rfl) (congrArg Prod.fst (F.1 125 (12, 92) rfl rfl)) rfl ?_
            refine x_iloadn (x := (-2)) rfl rfl ?_
            refine x_iret rfl rfl ?_
            show jX m_X12_split 100 0 0 66 [(0, .ref 125), (1, .int a1), (2, .int a2), (3, .int a3), (4, .int a4), (5, .int a5)] [.int (-2)] _ 0 0 _
            refine x_iret rfl rfl ?_
            exact jqe (show sp_split a1 a2 a3 a4 a5 = (-2) by unfold sp_split; (repeat' split) <;> first | rfl | (exfalso; omega)) (hQ _ (by repeat (first | exact O | refine jOl_si rfl ?_ | refine jOl_sl rfl ?_ | refine jOl_ci rfl ?_ | refine jOl_cl rfl ?_ | refine jOl_sr rfl ?_)))
        ·
          refine x_aloadn (x := 125) rfl rfl ?_
          refine x_iconst (v := (-1)) rfl ki_m1 ?_
          refine x_inv (N := m_X12_told) (As := [.int (-1)]) (b := 125) (st := []) (d' := 99) (mc := 0) (ms := 0) (host := "") 12 rfl t_X12_told ⟨Or.inl q_12_197, i_X12_told.1, i_X12_told.2⟩ ⟨by decide, rfl⟩ (congrArg Prod.fst (F.1 125 (12, 92) rfl rfl)) rfl (by decide) rfl rfl ⟨by decide, by decide⟩ (jC.of rfl k_X12_told rfl ?_)
          show jX m_X12_told 99 0 0 0 [(0, .ref 125), (1, .int (-1))] [] _ 0 0 _
          refine x_aloadn (x := 125) rfl rfl ?_
          refine x_iloadn (x := (-1)) rfl rfl ?_
          refine x_ifge (tgt := 9) rfl rfl (br_f (by decide) ?_)
          refine x_iloadn (x := (-1)) rfl rfl ?_
          refine x_goto (tgt := 10) rfl rfl ?_
          refine x_putI 12 1 rfl f_12_183 rfl (jfin_no TX12 RX12 92 rfl rfl) (congrArg Prod.fst (F.1 125 (12, 92) rfl rfl)) rfl ?_
          refine x_iloadn (x := (-1)) rfl rfl ?_
          refine x_iret rfl rfl ?_
          show jX m_X12_split 100 0 0 51 [(0, .ref 125), (1, .int a1), (2, .int a2), (3, .int a3), (4, .int a4), (5, .int a5)] [.int (-1)] _ 0 0 _
          refine x_iret rfl rfl ?_
          exact jqe (show sp_split a1 a2 a3 a4 a5 = (-1) by unfold sp_split; (repeat' split) <;> first | rfl | (exfalso; omega)) (hQ _ (by repeat (first | exact O | refine jOl_si rfl ?_ | refine jOl_sl rfl ?_ | refine jOl_ci rfl ?_ | refine jOl_cl rfl ?_ | refine jOl_sr rfl ?_)))
def sp_hold (a1 a2 a3 a4 : Int32) : Int32 := if (0 ≤ a3.toInt ∧ a3.toInt ≤ 146399) ∧ (0 ≤ a4.toInt ∧ a4.toInt ≤ 146399) then (-2) else (-1)
set_option maxRecDepth 100000 in
set_option maxHeartbeats 40000000 in
theorem px_hold (a1 a2 a3 a4 : Int32) {xs : Nat → Int32} {h : jH} {Q : Option Value → jH → Prop} (F : jFb 31 h) (O : jOl 7 xs h) (hQ : ∀ h', jFb 125 h' → jOl 7 xs h' → Q (some (.int (sp_hold a1 a2 a3 a4))) h') : jC m_X11_hold 100 0 0 [.ref 31, .int a1, .int a2, .int a3, .int a4] h Q := by
  have FM := jFb_up 125 rfl F
  refine jC.of rfl k_X11_hold rfl ?_
  show jX m_X11_hold 100 0 0 0 [(0, .ref 31), (1, .int a1), (2, .int a2), (3, .int a3), (4, .int a4)] [] _ 0 0 _
  refine x_iloadn (x := a3) rfl rfl ?_
  refine x_inst (N := m_X11_isDay) (As := [.int a3]) (st := []) (d' := 99) (mc := 0) (ms := 0) (host := "") rfl t_X11_isDay ⟨Or.inl q_11_115, s_X11_isDay⟩ rfl (by decide) rfl rfl ⟨by decide, by decide⟩ (c_X11_isDay (x := a3) ?_)
  show jX m_X11_hold 100 0 0 4 [(0, .ref 31), (1, .int a1), (2, .int a2), (3, .int a3), (4, .int a4)] [.int (jp (0 ≤ a3.toInt ∧ a3.toInt ≤ 146399))] _ 0 0 _
  refine x_ifeq (tgt := 15) rfl rfl (jpe ⟨fun c1 => ?_, fun c1 => ?_⟩)
  ·
    refine x_aloadn (x := 31) rfl rfl ?_
    refine x_iconst (v := (-1)) rfl ki_m1 ?_
    refine x_inv (N := m_X11_refuse) (As := [.int (-1)]) (b := 31) (st := []) (d' := 99) (mc := 0) (ms := 0) (host := "") 11 rfl t_X11_refuse ⟨Or.inl q_11_206, i_X11_refuse.1, i_X11_refuse.2⟩ ⟨by decide, rfl⟩ (congrArg Prod.fst (F.1 31 (11, 13) rfl rfl)) rfl (by decide) rfl rfl ⟨by decide, by decide⟩ (jC.of rfl k_X11_refuse rfl ?_)
    show jX m_X11_refuse 99 0 0 0 [(0, .ref 31), (1, .int (-1))] [] _ 0 0 _
    refine x_aloadn (x := 31) rfl rfl ?_
    refine x_iloadn (x := (-1)) rfl rfl ?_
    refine x_putI 11 12 rfl f_11_94 rfl (jfin_no TX11 RX11 13 rfl rfl) (congrArg Prod.fst (F.1 31 (11, 13) rfl rfl)) rfl ?_
    refine x_iloadn (x := (-1)) rfl rfl ?_
    refine x_iret rfl rfl ?_
    show jX m_X11_hold 100 0 0 20 [(0, .ref 31), (1, .int a1), (2, .int a2), (3, .int a3), (4, .int a4)] [.int (-1)] _ 0 0 _
    refine x_iret rfl rfl ?_
    exact jqe (show sp_hold a1 a2 a3 a4 = (-1) by unfold sp_hold; (repeat' split) <;> first | rfl | (exfalso; omega)) (hQ _ (by repeat (first | exact FM | refine jFb_si rfl ?_ | refine jFb_sl rfl ?_ | refine jFb_ci rfl ?_ | refine jFb_cl rfl ?_ | refine jFb_sr rfl ?_)) (by repeat (first | exact O | refine jOl_si rfl ?_ | refine jOl_sl rfl ?_ | refine jOl_ci rfl ?_ | refine jOl_cl rfl ?_ | refine jOl_sr rfl ?_)))
  ·
    refine x_iload (x := a4) rfl rfl ?_
    refine x_inst (N := m_X11_isDay) (As := [.int a4]) (st := []) (d' := 99) (mc := 0) (ms := 0) (host := "") rfl t_X11_isDay ⟨Or.inl q_11_115, s_X11_isDay⟩ rfl (by decide) rfl rfl ⟨by decide, by decide⟩ (c_X11_isDay (x := a4) ?_)
    show jX m_X11_hold 100 0 0 12 [(0, .ref 31), (1, .int a1), (2, .int a2), (3, .int a3), (4, .int a4)] [.int (jp (0 ≤ a4.toInt ∧ a4.toInt ≤ 146399))] _ 0 0 _
    refine x_ifne (tgt := 21) rfl rfl (jpn ⟨fun c2 => ?_, fun c2 => ?_⟩)
    ·
      refine x_aloadn (x := 31) rfl rfl ?_
      refine x_iloadn (x := a1) rfl rfl ?_
      refine x_inv (N := m_X11_isHolding) (As := [.int a1]) (b := 31) (st := []) (d' := 99) (mc := 0) (ms := 0) (host := "") 11 rfl t_X11_isHolding ⟨Or.inl q_11_415, i_X11_isHolding.1, i_X11_isHolding.2⟩ ⟨by decide, rfl⟩ (congrArg Prod.fst (F.1 31 (11, 13) rfl rfl)) rfl (by decide) rfl rfl ⟨by decide, by decide⟩ (jC.of rfl k_X11_isHolding rfl ?_)
      show jX m_X11_isHolding 99 0 0 0 [(0, .ref 31), (1, .int a1)] [] _ 0 0 _
      refine x_iloadn (x := a1) rfl rfl ?_
      refine x_iflt (tgt := 28) rfl rfl (ti_lt (show (a1 : Int32).toInt = a1.toInt from rfl) (show (0 : Int32).toInt = 0 by decide) ⟨fun c3 => ?_, fun c3 => ?_⟩)
      ·
        refine x_iconst (v := 0) rfl ki_0 ?_
        refine x_zret rfl rfl (by first | decide | exact jp_01 _) ?_
        show jX m_X11_hold 100 0 0 26 [(0, .ref 31), (1, .int a1), (2, .int a2), (3, .int a3), (4, .int a4)] [.int 0] _ 0 0 _
        refine x_ifeq (tgt := 45) rfl rfl (br_t (by decide) ?_)
        refine x_aloadn (x := 31) rfl rfl ?_
        refine x_bipush (v := (-2)) rfl kb_m2 ?_
        refine x_inv (N := m_X11_refuse) (As := [.int (-2)]) (b := 31) (st := []) (d' := 99) (mc := 0) (ms := 0) (host := "") 11 rfl t_X11_refuse ⟨Or.inl q_11_206, i_X11_refuse.1, i_X11_refuse.2⟩ ⟨by decide, rfl⟩ (congrArg Prod.fst (F.1 31 (11, 13) rfl rfl)) rfl (by decide) rfl rfl ⟨by decide, by decide⟩ (jC.of rfl k_X11_refuse rfl ?_)
        show jX m_X11_refuse 99 0 0 0 [(0, .ref 31), (1, .int (-2))] [] _ 0 0 _
        refine x_aloadn (x := 31) rfl rfl ?_
        refine x_iloadn (x := (-2)) rfl rfl ?_
        refine x_putI 11 12 rfl f_11_94 rfl (jfin_no TX11 RX11 13 rfl rfl) (congrArg Prod.fst (F.1 31 (11, 13) rfl rfl)) rfl ?_
        refine x_iloadn (x := (-2)) rfl rfl ?_
        refine x_iret rfl rfl ?_
        show jX m_X11_hold 100 0 0 51 [(0, .ref 31), (1, .int a1), (2, .int a2), (3, .int a3), (4, .int a4)] [.int (-2)] _ 0 0 _
        refine x_iret rfl rfl ?_
        exact jqe (show sp_hold a1 a2 a3 a4 = (-2) by unfold sp_hold; (repeat' split) <;> first | rfl | (exfalso; omega)) (hQ _ (by repeat (first | exact FM | refine jFb_si rfl ?_ | refine jFb_sl rfl ?_ | refine jFb_ci rfl ?_ | refine jFb_cl rfl ?_ | refine jFb_sr rfl ?_)) (by repeat (first | exact O | refine jOl_si rfl ?_ | refine jOl_sl rfl ?_ | refine jOl_ci rfl ?_ | refine jOl_cl rfl ?_ | refine jOl_sr rfl ?_)))
      ·
        refine x_iloadn (x := a1) rfl rfl ?_
        refine x_aloadn (x := 31) rfl rfl ?_
        refine x_getR (b := 32) 11 0 rfl f_11_10 rfl (congrArg Prod.fst (F.1 31 (11, 13) rfl rfl)) (F.2.1 3968 32 rfl rfl) ?_
        refine x_getR (b := 49) 1 8 rfl f_11_408 rfl (congrArg Prod.fst (F.1 32 (1, 20) rfl rfl)) (F.2.1 4104 49 rfl rfl) ?_
        refine y_getI (v := 0) 8 3 rfl f_11_142 rfl (congrArg Prod.fst (F.1 49 (8, 4) rfl rfl)) (F.2.2.1 6275 0 rfl rfl) ?_
        refine x_icge (tgt := 28) rfl rfl (ti_ge (show (a1 : Int32).toInt = a1.toInt from rfl) (show (0 : Int32).toInt = 0 by decide) ⟨fun c4 => ?_, fun c4 => ?_⟩)
        ·
          refine x_iconst (v := 0) rfl ki_0 ?_
          refine x_zret rfl rfl (by first | decide | exact jp_01 _) ?_
          show jX m_X11_hold 100 0 0 26 [(0, .ref 31), (1, .int a1), (2, .int a2), (3, .int a3), (4, .int a4)] [.int 0] _ 0 0 _
          refine x_ifeq (tgt := 45) rfl rfl (br_t (by decide) ?_)
          refine x_aloadn (x := 31) rfl rfl ?_
          refine x_bipush (v := (-2)) rfl kb_m2 ?_
          refine x_inv (N := m_X11_refuse) (As := [.int (-2)]) (b := 31) (st := []) (d' := 99) (mc := 0) (ms := 0) (host := "") 11 rfl t_X11_refuse ⟨Or.inl q_11_206, i_X11_refuse.1, i_X11_refuse.2⟩ ⟨by decide, rfl⟩ (congrArg Prod.fst (F.1 31 (11, 13) rfl rfl)) rfl (by decide) rfl rfl ⟨by decide, by decide⟩ (jC.of rfl k_X11_refuse rfl ?_)
          show jX m_X11_refuse 99 0 0 0 [(0, .ref 31), (1, .int (-2))] [] _ 0 0 _
          refine x_aloadn (x := 31) rfl rfl ?_
          refine x_iloadn (x := (-2)) rfl rfl ?_
          refine x_putI 11 12 rfl f_11_94 rfl (jfin_no TX11 RX11 13 rfl rfl) (congrArg Prod.fst (F.1 31 (11, 13) rfl rfl)) rfl ?_
          refine x_iloadn (x := (-2)) rfl rfl ?_
          refine x_iret rfl rfl ?_
          show jX m_X11_hold 100 0 0 51 [(0, .ref 31), (1, .int a1), (2, .int a2), (3, .int a3), (4, .int a4)] [.int (-2)] _ 0 0 _
          refine x_iret rfl rfl ?_
          exact jqe (show sp_hold a1 a2 a3 a4 = (-2) by unfold sp_hold; (repeat' split) <;> first | rfl | (exfalso; omega)) (hQ _ (by repeat (first | exact FM | refine jFb_si rfl ?_ | refine jFb_sl rfl ?_ | refine jFb_ci rfl ?_ | refine jFb_cl rfl ?_ | refine jFb_sr rfl ?_)) (by repeat (first | exact O | refine jOl_si rfl ?_ | refine jOl_sl rfl ?_ | refine jOl_ci rfl ?_ | refine jOl_cl rfl ?_ | refine jOl_sr rfl ?_)))
        ·
          refine x_iloadn (x := a1) rfl rfl ?_
          refine x_bipush (v := 40) rfl kb_40 ?_
          refine x_icge (tgt := 28) rfl rfl (ti_ge (show (a1 : Int32).toInt = a1.toInt from rfl) (show (40 : Int32).toInt = 40 by decide) ⟨fun c5 => ?_, fun c5 => ?_⟩)
          ·
            refine x_iconst (v := 0) rfl ki_0 ?_
            refine x_zret rfl rfl (by first | decide | exact jp_01 _) ?_
            show jX m_X11_hold 100 0 0 26 [(0, .ref 31), (1, .int a1), (2, .int a2), (3, .int a3), (4, .int a4)] [.int 0] _ 0 0 _
            refine x_ifeq (tgt := 45) rfl rfl (br_t (by decide) ?_)
            refine x_aloadn (x := 31) rfl rfl ?_
            refine x_bipush (v := (-2)) rfl kb_m2 ?_
            refine x_inv (N := m_X11_refuse) (As := [.int (-2)]) (b := 31) (st := []) (d' := 99) (mc := 0) (ms := 0) (host := "") 11 rfl t_X11_refuse ⟨Or.inl q_11_206, i_X11_refuse.1, i_X11_refuse.2⟩ ⟨by decide, rfl⟩ (congrArg Prod.fst (F.1 31 (11, 13) rfl rfl)) rfl (by decide) rfl rfl ⟨by decide, by decide⟩ (jC.of rfl k_X11_refuse rfl ?_)
            show jX m_X11_refuse 99 0 0 0 [(0, .ref 31), (1, .int (-2))] [] _ 0 0 _
            refine x_aloadn (x := 31) rfl rfl ?_
            refine x_iloadn (x := (-2)) rfl rfl ?_
            refine x_putI 11 12 rfl f_11_94 rfl (jfin_no TX11 RX11 13 rfl rfl) (congrArg Prod.fst (F.1 31 (11, 13) rfl rfl)) rfl ?_
            refine x_iloadn (x := (-2)) rfl rfl ?_
            refine x_iret rfl rfl ?_
            show jX m_X11_hold 100 0 0 51 [(0, .ref 31), (1, .int a1), (2, .int a2), (3, .int a3), (4, .int a4)] [.int (-2)] _ 0 0 _
            refine x_iret rfl rfl ?_
            exact jqe (show sp_hold a1 a2 a3 a4 = (-2) by unfold sp_hold; (repeat' split) <;> first | rfl | (exfalso; omega)) (hQ _ (by repeat (first | exact FM | refine jFb_si rfl ?_ | refine jFb_sl rfl ?_ | refine jFb_ci rfl ?_ | refine jFb_cl rfl ?_ | refine jFb_sr rfl ?_)) (by repeat (first | exact O | refine jOl_si rfl ?_ | refine jOl_sl rfl ?_ | refine jOl_ci rfl ?_ | refine jOl_cl rfl ?_ | refine jOl_sr rfl ?_)))
          ·
            refine x_iconst (v := 1) rfl ki_1 ?_
            refine x_goto (tgt := 29) rfl rfl ?_
            refine x_zret rfl rfl (by first | decide | exact jp_01 _) ?_
            show jX m_X11_hold 100 0 0 26 [(0, .ref 31), (1, .int a1), (2, .int a2), (3, .int a3), (4, .int a4)] [.int 1] _ 0 0 _
            refine x_ifeq (tgt := 45) rfl rfl (br_f (by decide) ?_)
            refine x_iloadn (x := a2) rfl rfl ?_
            refine x_iconst (v := (-1)) rfl ki_m1 ?_
            refine x_iceq (tgt := 52) rfl rfl (ti_eq (show (a2 : Int32).toInt = a2.toInt from rfl) (show ((-1) : Int32).toInt = (-1) by decide) ⟨fun c6 => ?_, fun c6 => ?_⟩)
            ·
              refine x_aloadn (x := 31) rfl rfl ?_
              refine x_getR (b := 32) 11 0 rfl f_11_10 rfl (congrArg Prod.fst (F.1 31 (11, 13) rfl rfl)) (F.2.1 3968 32 rfl rfl) ?_
              refine x_getR (b := 51) 1 9 rfl f_11_421 rfl (congrArg Prod.fst (F.1 32 (1, 20) rfl rfl)) (F.2.1 4105 51 rfl rfl) ?_
              refine x_inv (N := m_X8_isFull) (As := []) (b := 51) (st := []) (d' := 99) (mc := 0) (ms := 0) (host := "") 8 rfl t_X8_isFull ⟨Or.inl q_11_130, i_X8_isFull.1, i_X8_isFull.2⟩ ⟨by decide, rfl⟩ (congrArg Prod.fst (F.1 51 (8, 4) rfl rfl)) rfl (by decide) rfl rfl ⟨by decide, by decide⟩ (jC.of rfl k_X8_isFull rfl ?_)
              show jX m_X8_isFull 99 0 0 0 [(0, .ref 51)] [] _ 0 0 _
              refine x_aloadn (x := 51) rfl rfl ?_
              refine y_getI (v := 0) 8 3 rfl f_8_7 rfl (congrArg Prod.fst (F.1 51 (8, 4) rfl rfl)) (F.2.2.1 6531 0 rfl rfl) ?_
              refine x_aloadn (x := 51) rfl rfl ?_
              refine y_getI (v := 100) 8 1 rfl f_8_22 rfl (congrArg Prod.fst (F.1 51 (8, 4) rfl rfl)) (F.2.2.1 6529 100 rfl rfl) ?_
              refine x_iclt (tgt := 15) rfl rfl (br_t (by decide) ?_)
              refine x_iconst (v := 0) rfl ki_0 ?_
              refine x_zret rfl rfl (by first | decide | exact jp_01 _) ?_
              show jX m_X11_hold 100 0 0 62 [(0, .ref 31), (1, .int a1), (2, .int a2), (3, .int a3), (4, .int a4)] [.int 0] _ 0 0 _
              refine x_ifeq (tgt := 72) rfl rfl (br_t (by decide) ?_)
              refine x_aloadn (x := 31) rfl rfl ?_
              refine x_getR (b := 32) 11 0 rfl f_11_10 rfl (congrArg Prod.fst (F.1 31 (11, 13) rfl rfl)) (F.2.1 3968 32 rfl rfl) ?_
              refine x_getR (b := 51) 1 9 rfl f_11_421 rfl (congrArg Prod.fst (F.1 32 (1, 20) rfl rfl)) (F.2.1 4105 51 rfl rfl) ?_
              refine x_iload (x := a4) rfl rfl ?_
              refine x_iloadn (x := a3) rfl rfl ?_
              refine x_iloadn (x := a1) rfl rfl ?_
              refine x_iloadn (x := a2) rfl rfl ?_
              refine x_iconst (v := 0) rfl ki_0 ?_
              refine x_iconst (v := 0) rfl ki_0 ?_
              refine x_inv (N := m_X8_add) (As := [.int a4, .int a3, .int a1, .int a2, .int 0, .int 0]) (b := 51) (st := []) (d' := 99) (mc := 0) (ms := 0) (host := "") 8 rfl t_X8_add ⟨Or.inl q_11_145, i_X8_add.1, i_X8_add.2⟩ ⟨by decide, rfl⟩ (congrArg Prod.fst (F.1 51 (8, 4) rfl rfl)) rfl (by decide) rfl rfl ⟨by decide, by decide⟩ (jC.of rfl k_X8_add rfl ?_)
              show jX m_X8_add 99 0 0 0 [(0, .ref 51), (1, .int a4), (2, .int a3), (3, .int a1), (4, .int a2), (5, .int 0), (6, .int 0)] [] _ 0 0 _
              refine x_aloadn (x := 51) rfl rfl ?_
              refine y_getI (v := 0) 8 3 rfl f_8_7 rfl (congrArg Prod.fst (F.1 51 (8, 4) rfl rfl)) (F.2.2.1 6531 0 rfl rfl) ?_
              refine x_aloadn (x := 51) rfl rfl ?_
              refine y_getI (v := 100) 8 1 rfl f_8_22 rfl (congrArg Prod.fst (F.1 51 (8, 4) rfl rfl)) (F.2.2.1 6529 100 rfl rfl) ?_
              refine x_iclt (tgt := 12) rfl rfl (br_t (by decide) ?_)
              refine x_aloadn (x := 51) rfl rfl ?_
              refine y_getI (v := 0) 8 3 rfl f_8_7 rfl (congrArg Prod.fst (F.1 51 (8, 4) rfl rfl)) (F.2.2.1 6531 0 rfl rfl) ?_
              refine x_istore (ls' := [(7, .int 0), (0, .ref 51), (1, .int a4), (2, .int a3), (3, .int a1), (4, .int a2), (5, .int 0), (6, .int 0)]) rfl rfl rfl ?_
              refine x_aloadn (x := 51) rfl rfl ?_
              refine x_iload (x := 0) rfl rfl ?_
              refine x_iconst (v := 1) rfl ki_1 ?_
              refine y_iadd (v := 1) rfl (by decide) ?_
              refine x_putI 8 3 rfl f_8_7 rfl (jfin_no TX8 RX8 4 rfl rfl) (congrArg Prod.fst (F.1 51 (8, 4) rfl rfl)) rfl ?_
              refine x_aloadn (x := 51) rfl rfl ?_
              refine x_iload (x := 0) rfl rfl ?_
              refine x_iconst (v := 0) rfl ki_0 ?_
              refine x_iloadn (x := a4) rfl rfl ?_
              refine x_inv (N := m_X8_put) (As := [.int 0, .int 0, .int a4]) (b := 51) (st := []) (d' := 98) (mc := 0) (ms := 0) (host := "") 8 rfl t_X8_put ⟨Or.inl q_8_29, i_X8_put.1, i_X8_put.2⟩ ⟨by decide, rfl⟩ (congrArg Prod.fst (F.1 51 (8, 4) rfl rfl)) rfl (by decide) rfl rfl ⟨by decide, by decide⟩ (jC.of rfl k_X8_put rfl ?_)
              show jX m_X8_put 98 0 0 0 [(0, .ref 51), (1, .int 0), (2, .int 0), (3, .int a4)] [] _ 0 0 _
              refine x_iloadn (x := 0) rfl rfl ?_
              refine x_iflt (tgt := 38) rfl rfl (br_f (by decide) ?_)
              refine x_iloadn (x := 0) rfl rfl ?_
              refine x_aloadn (x := 51) rfl rfl ?_
              refine y_getI (v := 1) 8 3 rfl f_8_7 rfl (congrArg Prod.fst (F.1 51 (8, 4) rfl rfl)) rfl ?_
              refine x_icge (tgt := 38) rfl rfl (br_f (by decide) ?_)
              refine x_iloadn (x := 0) rfl rfl ?_
              refine x_iflt (tgt := 38) rfl rfl (br_f (by decide) ?_)
              refine x_iloadn (x := 0) rfl rfl ?_
              refine x_aloadn (x := 51) rfl rfl ?_
              refine y_getI (v := 4) 8 0 rfl f_8_19 rfl (congrArg Prod.fst (F.1 51 (8, 4) rfl rfl)) (F.2.2.1 6528 4 rfl rfl) ?_
              refine x_icge (tgt := 38) rfl rfl (br_f (by decide) ?_)
              refine x_aloadn (x := 51) rfl rfl ?_
              refine x_getR (b := 52) 8 2 rfl f_8_25 rfl (congrArg Prod.fst (F.1 51 (8, 4) rfl rfl)) (F.2.1 6530 52 rfl rfl) ?_
              refine x_iloadn (x := 0) rfl rfl ?_
              refine x_aloadn (x := 51) rfl rfl ?_
              refine y_getI (v := 4) 8 0 rfl f_8_19 rfl (congrArg Prod.fst (F.1 51 (8, 4) rfl rfl)) (F.2.2.1 6528 4 rfl rfl) ?_
              refine y_imul (v := 0) rfl (by decide) ?_
              refine x_iloadn (x := 0) rfl rfl ?_
              refine y_iadd (v := 0) rfl (by decide) ?_
              refine x_iloadn (x := a4) rfl rfl ?_
              refine y_iast (N := 400) 0 rfl (F.1 52 (100, 400) rfl rfl) rfl (jinb_of (by decide)) (by decide) ?_
              refine x_vret rfl rfl ?_
              show jX m_X8_add 99 0 0 34 [(7, .int 0), (0, .ref 51), (1, .int a4), (2, .int a3), (3, .int a1), (4, .int a2), (5, .int 0), (6, .int 0)] [] _ 0 0 _
              refine x_aloadn (x := 51) rfl rfl ?_
              refine x_iload (x := 0) rfl rfl ?_
              refine x_iconst (v := 1) rfl ki_1 ?_
              refine x_iloadn (x := a3) rfl rfl ?_
              refine x_inv (N := m_X8_put) (As := [.int 0, .int 1, .int a3]) (b := 51) (st := []) (d' := 98) (mc := 0) (ms := 0) (host := "") 8 rfl t_X8_put ⟨Or.inl q_8_29, i_X8_put.1, i_X8_put.2⟩ ⟨by decide, rfl⟩ (congrArg Prod.fst (F.1 51 (8, 4) rfl rfl)) rfl (by decide) rfl rfl ⟨by decide, by decide⟩ (jC.of rfl k_X8_put rfl ?_)
              show jX m_X8_put 98 0 0 0 [(0, .ref 51), (1, .int 0), (2, .int 1), (3, .int a3)] [] _ 0 0 _
              refine x_iloadn (x := 0) rfl rfl ?_
              refine x_iflt (tgt := 38) rfl rfl (br_f (by decide) ?_)
              refine x_iloadn (x := 0) rfl rfl ?_
              refine x_aloadn (x := 51) rfl rfl ?_
              refine y_getI (v := 1) 8 3 rfl f_8_7 rfl (congrArg Prod.fst (F.1 51 (8, 4) rfl rfl)) rfl ?_
              refine x_icge (tgt := 38) rfl rfl (br_f (by decide) ?_)
              refine x_iloadn (x := 1) rfl rfl ?_
              refine x_iflt (tgt := 38) rfl rfl (br_f (by decide) ?_)
              refine x_iloadn (x := 1) rfl rfl ?_
              refine x_aloadn (x := 51) rfl rfl ?_
              refine y_getI (v := 4) 8 0 rfl f_8_19 rfl (congrArg Prod.fst (F.1 51 (8, 4) rfl rfl)) (F.2.2.1 6528 4 rfl rfl) ?_
              refine x_icge (tgt := 38) rfl rfl (br_f (by decide) ?_)
              refine x_aloadn (x := 51) rfl rfl ?_
              refine x_getR (b := 52) 8 2 rfl f_8_25 rfl (congrArg Prod.fst (F.1 51 (8, 4) rfl rfl)) (F.2.1 6530 52 rfl rfl) ?_
              refine x_iloadn (x := 0) rfl rfl ?_
              refine x_aloadn (x := 51) rfl rfl ?_
              refine y_getI (v := 4) 8 0 rfl f_8_19 rfl (congrArg Prod.fst (F.1 51 (8, 4) rfl rfl)) (F.2.2.1 6528 4 rfl rfl) ?_
              refine y_imul (v := 0) rfl (by decide) ?_
              refine x_iloadn (x := 1) rfl rfl ?_
              refine y_iadd (v := 1) rfl (by decide) ?_
              refine x_iloadn (x := a3) rfl rfl ?_
              refine y_iast (N := 400) 1 rfl (F.1 52 (100, 400) rfl rfl) rfl (jinb_of (by decide)) (by decide) ?_
              refine x_vret rfl rfl ?_
              show jX m_X8_add 99 0 0 42 [(7, .int 0), (0, .ref 51), (1, .int a4), (2, .int a3), (3, .int a1), (4, .int a2), (5, .int 0), (6, .int 0)] [] _ 0 0 _
              refine x_aloadn (x := 51) rfl rfl ?_
              refine x_iload (x := 0) rfl rfl ?_
              refine x_iconst (v := 2) rfl ki_2 ?_
              refine x_iloadn (x := a1) rfl rfl ?_
              refine x_inv (N := m_X8_put) (As := [.int 0, .int 2, .int a1]) (b := 51) (st := []) (d' := 98) (mc := 0) (ms := 0) (host := "") 8 rfl t_X8_put ⟨Or.inl q_8_29, i_X8_put.1, i_X8_put.2⟩ ⟨by decide, rfl⟩ (congrArg Prod.fst (F.1 51 (8, 4) rfl rfl)) rfl (by decide) rfl rfl ⟨by decide, by decide⟩ (jC.of rfl k_X8_put rfl ?_)
              show jX m_X8_put 98 0 0 0 [(0, .ref 51), (1, .int 0), (2, .int 2), (3, .int a1)] [] _ 0 0 _
              refine x_iloadn (x := 0) rfl rfl ?_
              refine x_iflt (tgt := 38) rfl rfl (br_f (by decide) ?_)
              refine x_iloadn (x := 0) rfl rfl ?_
              refine x_aloadn (x := 51) rfl rfl ?_
              refine y_getI (v := 1) 8 3 rfl f_8_7 rfl (congrArg Prod.fst (F.1 51 (8, 4) rfl rfl)) rfl ?_
              refine x_icge (tgt := 38) rfl rfl (br_f (by decide) ?_)
              refine x_iloadn (x := 2) rfl rfl ?_
              refine x_iflt (tgt := 38) rfl rfl (br_f (by decide) ?_)
              refine x_iloadn (x := 2) rfl rfl ?_
              refine x_aloadn (x := 51) rfl rfl ?_
              refine y_getI (v := 4) 8 0 rfl f_8_19 rfl (congrArg Prod.fst (F.1 51 (8, 4) rfl rfl)) (F.2.2.1 6528 4 rfl rfl) ?_
              refine x_icge (tgt := 38) rfl rfl (br_f (by decide) ?_)
              refine x_aloadn (x := 51) rfl rfl ?_
              refine x_getR (b := 52) 8 2 rfl f_8_25 rfl (congrArg Prod.fst (F.1 51 (8, 4) rfl rfl)) (F.2.1 6530 52 rfl rfl) ?_
              refine x_iloadn (x := 0) rfl rfl ?_
              refine x_aloadn (x := 51) rfl rfl ?_
              refine y_getI (v := 4) 8 0 rfl f_8_19 rfl (congrArg Prod.fst (F.1 51 (8, 4) rfl rfl)) (F.2.2.1 6528 4 rfl rfl) ?_
              refine y_imul (v := 0) rfl (by decide) ?_
              refine x_iloadn (x := 2) rfl rfl ?_
              refine y_iadd (v := 2) rfl (by decide) ?_
              refine x_iloadn (x := a1) rfl rfl ?_
              refine y_iast (N := 400) 2 rfl (F.1 52 (100, 400) rfl rfl) rfl (jinb_of (by decide)) (by decide) ?_
              refine x_vret rfl rfl ?_
              show jX m_X8_add 99 0 0 50 [(7, .int 0), (0, .ref 51), (1, .int a4), (2, .int a3), (3, .int a1), (4, .int a2), (5, .int 0), (6, .int 0)] [] _ 0 0 _
              refine x_aloadn (x := 51) rfl rfl ?_
              refine x_iload (x := 0) rfl rfl ?_
              refine x_iconst (v := 3) rfl ki_3 ?_
              refine x_iload (x := a2) rfl rfl ?_
              refine x_inv (N := m_X8_put) (As := [.int 0, .int 3, .int a2]) (b := 51) (st := []) (d' := 98) (mc := 0) (ms := 0) (host := "") 8 rfl t_X8_put ⟨Or.inl q_8_29, i_X8_put.1, i_X8_put.2⟩ ⟨by decide, rfl⟩ (congrArg Prod.fst (F.1 51 (8, 4) rfl rfl)) rfl (by decide) rfl rfl ⟨by decide, by decide⟩ (jC.of rfl k_X8_put rfl ?_)
              show jX m_X8_put 98 0 0 0 [(0, .ref 51), (1, .int 0), (2, .int 3), (3, .int a2)] [] _ 0 0 _
              refine x_iloadn (x := 0) rfl rfl ?_
              refine x_iflt (tgt := 38) rfl rfl (br_f (by decide) ?_)
              refine x_iloadn (x := 0) rfl rfl ?_
              refine x_aloadn (x := 51) rfl rfl ?_
              refine y_getI (v := 1) 8 3 rfl f_8_7 rfl (congrArg Prod.fst (F.1 51 (8, 4) rfl rfl)) rfl ?_
              refine x_icge (tgt := 38) rfl rfl (br_f (by decide) ?_)
              refine x_iloadn (x := 3) rfl rfl ?_
              refine x_iflt (tgt := 38) rfl rfl (br_f (by decide) ?_)
              refine x_iloadn (x := 3) rfl rfl ?_
              refine x_aloadn (x := 51) rfl rfl ?_
              refine y_getI (v := 4) 8 0 rfl f_8_19 rfl (congrArg Prod.fst (F.1 51 (8, 4) rfl rfl)) (F.2.2.1 6528 4 rfl rfl) ?_
              refine x_icge (tgt := 38) rfl rfl (br_f (by decide) ?_)
              refine x_aloadn (x := 51) rfl rfl ?_
              refine x_getR (b := 52) 8 2 rfl f_8_25 rfl (congrArg Prod.fst (F.1 51 (8, 4) rfl rfl)) (F.2.1 6530 52 rfl rfl) ?_
              refine x_iloadn (x := 0) rfl rfl ?_
              refine x_aloadn (x := 51) rfl rfl ?_
              refine y_getI (v := 4) 8 0 rfl f_8_19 rfl (congrArg Prod.fst (F.1 51 (8, 4) rfl rfl)) (F.2.2.1 6528 4 rfl rfl) ?_
              refine y_imul (v := 0) rfl (by decide) ?_
              refine x_iloadn (x := 3) rfl rfl ?_
              refine y_iadd (v := 3) rfl (by decide) ?_
              refine x_iloadn (x := a2) rfl rfl ?_
              refine y_iast (N := 400) 3 rfl (F.1 52 (100, 400) rfl rfl) rfl (jinb_of (by decide)) (by decide) ?_
              refine x_vret rfl rfl ?_
              show jX m_X8_add 99 0 0 59 [(7, .int 0), (0, .ref 51), (1, .int a4), (2, .int a3), (3, .int a1), (4, .int a2), (5, .int 0), (6, .int 0)] [] _ 0 0 _
              refine x_aloadn (x := 51) rfl rfl ?_
              refine x_iload (x := 0) rfl rfl ?_
              refine x_iconst (v := 4) rfl ki_4 ?_
              refine x_iload (x := 0) rfl rfl ?_
              refine x_inv (N := m_X8_put) (As := [.int 0, .int 4, .int 0]) (b := 51) (st := []) (d' := 98) (mc := 0) (ms := 0) (host := "") 8 rfl t_X8_put ⟨Or.inl q_8_29, i_X8_put.1, i_X8_put.2⟩ ⟨by decide, rfl⟩ (congrArg Prod.fst (F.1 51 (8, 4) rfl rfl)) rfl (by decide) rfl rfl ⟨by decide, by decide⟩ (jC.of rfl k_X8_put rfl ?_)
              show jX m_X8_put 98 0 0 0 [(0, .ref 51), (1, .int 0), (2, .int 4), (3, .int 0)] [] _ 0 0 _
              refine x_iloadn (x := 0) rfl rfl ?_
              refine x_iflt (tgt := 38) rfl rfl (br_f (by decide) ?_)
              refine x_iloadn (x := 0) rfl rfl ?_
              refine x_aloadn (x := 51) rfl rfl ?_
              refine y_getI (v := 1) 8 3 rfl f_8_7 rfl (congrArg Prod.fst (F.1 51 (8, 4) rfl rfl)) rfl ?_
              refine x_icge (tgt := 38) rfl rfl (br_f (by decide) ?_)
              refine x_iloadn (x := 4) rfl rfl ?_
              refine x_iflt (tgt := 38) rfl rfl (br_f (by decide) ?_)
              refine x_iloadn (x := 4) rfl rfl ?_
              refine x_aloadn (x := 51) rfl rfl ?_
              refine y_getI (v := 4) 8 0 rfl f_8_19 rfl (congrArg Prod.fst (F.1 51 (8, 4) rfl rfl)) (F.2.2.1 6528 4 rfl rfl) ?_
              refine x_icge (tgt := 38) rfl rfl (br_t (by decide) ?_)
              refine x_vret rfl rfl ?_
              show jX m_X8_add 99 0 0 68 [(7, .int 0), (0, .ref 51), (1, .int a4), (2, .int a3), (3, .int a1), (4, .int a2), (5, .int 0), (6, .int 0)] [] _ 0 0 _
              refine x_aloadn (x := 51) rfl rfl ?_
              refine x_iload (x := 0) rfl rfl ?_
              refine x_iconst (v := 5) rfl ki_5 ?_
              refine x_iload (x := 0) rfl rfl ?_
              refine x_inv (N := m_X8_put) (As := [.int 0, .int 5, .int 0]) (b := 51) (st := []) (d' := 98) (mc := 0) (ms := 0) (host := "") 8 rfl t_X8_put ⟨Or.inl q_8_29, i_X8_put.1, i_X8_put.2⟩ ⟨by decide, rfl⟩ (congrArg Prod.fst (F.1 51 (8, 4) rfl rfl)) rfl (by decide) rfl rfl ⟨by decide, by decide⟩ (jC.of rfl k_X8_put rfl ?_)
              show jX m_X8_put 98 0 0 0 [(0, .ref 51), (1, .int 0), (2, .int 5), (3, .int 0)] [] _ 0 0 _
              refine x_iloadn (x := 0) rfl rfl ?_
              refine x_iflt (tgt := 38) rfl rfl (br_f (by decide) ?_)
              refine x_iloadn (x := 0) rfl rfl ?_
              refine x_aloadn (x := 51) rfl rfl ?_
              refine y_getI (v := 1) 8 3 rfl f_8_7 rfl (congrArg Prod.fst (F.1 51 (8, 4) rfl rfl)) rfl ?_
              refine x_icge (tgt := 38) rfl rfl (br_f (by decide) ?_)
              refine x_iloadn (x := 5) rfl rfl ?_
              refine x_iflt (tgt := 38) rfl rfl (br_f (by decide) ?_)
              refine x_iloadn (x := 5) rfl rfl ?_
              refine x_aloadn (x := 51) rfl rfl ?_
              refine y_getI (v := 4) 8 0 rfl f_8_19 rfl (congrArg Prod.fst (F.1 51 (8, 4) rfl rfl)) (F.2.2.1 6528 4 rfl rfl) ?_
              refine x_icge (tgt := 38) rfl rfl (br_t (by decide) ?_)
              refine x_vret rfl rfl ?_
              show jX m_X8_add 99 0 0 77 [(7, .int 0), (0, .ref 51), (1, .int a4), (2, .int a3), (3, .int a1), (4, .int a2), (5, .int 0), (6, .int 0)] [] _ 0 0 _
              refine x_vret rfl rfl ?_
              show jX m_X11_hold 100 0 0 89 [(0, .ref 31), (1, .int a1), (2, .int a2), (3, .int a3), (4, .int a4)] [] _ 0 0 _
              refine x_aloadn (x := 31) rfl rfl ?_
              refine x_aloadn (x := 31) rfl rfl ?_
              refine x_getR (b := 32) 11 0 rfl f_11_10 rfl (congrArg Prod.fst (F.1 31 (11, 13) rfl rfl)) (F.2.1 3968 32 rfl rfl) ?_
              refine x_getR (b := 51) 1 9 rfl f_11_421 rfl (congrArg Prod.fst (F.1 32 (1, 20) rfl rfl)) (F.2.1 4105 51 rfl rfl) ?_
              refine y_getI (v := 1) 8 3 rfl f_11_142 rfl (congrArg Prod.fst (F.1 51 (8, 4) rfl rfl)) rfl ?_
              refine x_inv (N := m_X11_accept) (As := [.int 1]) (b := 31) (st := []) (d' := 99) (mc := 0) (ms := 0) (host := "") 11 rfl t_X11_accept ⟨Or.inl q_11_165, i_X11_accept.1, i_X11_accept.2⟩ ⟨by decide, rfl⟩ (congrArg Prod.fst (F.1 31 (11, 13) rfl rfl)) rfl (by decide) rfl rfl ⟨by decide, by decide⟩ (jC.of rfl k_X11_accept rfl ?_)
              show jX m_X11_accept 99 0 0 0 [(0, .ref 31), (1, .int 1)] [] _ 0 0 _
              refine x_aloadn (x := 31) rfl rfl ?_
              refine x_iconst (v := 0) rfl ki_0 ?_
              refine x_putI 11 12 rfl f_11_94 rfl (jfin_no TX11 RX11 13 rfl rfl) (congrArg Prod.fst (F.1 31 (11, 13) rfl rfl)) rfl ?_
              refine x_aloadn (x := 31) rfl rfl ?_
              refine x_getR (b := 32) 11 0 rfl f_11_10 rfl (congrArg Prod.fst (F.1 31 (11, 13) rfl rfl)) (F.2.1 3968 32 rfl rfl) ?_
              refine x_dup rfl rfl ?_
              refine y_getI (v := 1) 1 19 rfl f_11_528 rfl (congrArg Prod.fst (F.1 32 (1, 20) rfl rfl)) (F.2.2.1 4115 1 rfl rfl) ?_
              refine x_iconst (v := 1) rfl ki_1 ?_
              refine y_iadd (v := 2) rfl (by decide) ?_
              refine x_putI 1 19 rfl f_11_528 rfl (jfin_no TX1 RX1 20 rfl rfl) (congrArg Prod.fst (F.1 32 (1, 20) rfl rfl)) rfl ?_
              refine x_iloadn (x := 1) rfl rfl ?_
              refine x_iret rfl rfl ?_
              show jX m_X11_hold 100 0 0 103 [(0, .ref 31), (1, .int a1), (2, .int a2), (3, .int a3), (4, .int a4)] [.int 1] _ 0 0 _
              refine x_iret rfl rfl ?_
              exact jqe (show sp_hold a1 a2 a3 a4 = 1 by unfold sp_hold; (repeat' split) <;> first | rfl | (exfalso; omega)) (hQ _ (by repeat (first | exact FM | refine jFb_si rfl ?_ | refine jFb_sl rfl ?_ | refine jFb_ci rfl ?_ | refine jFb_cl rfl ?_ | refine jFb_sr rfl ?_)) (by repeat (first | exact O | refine jOl_si rfl ?_ | refine jOl_sl rfl ?_ | refine jOl_ci rfl ?_ | refine jOl_cl rfl ?_ | refine jOl_sr rfl ?_)))
            ·
              refine x_aloadn (x := 31) rfl rfl ?_
              refine x_getR (b := 78) 11 4 rfl f_11_41 rfl (congrArg Prod.fst (F.1 31 (11, 13) rfl rfl)) (F.2.1 3972 78 rfl rfl) ?_
              refine x_iloadn (x := a2) rfl rfl ?_
              refine x_inv (N := m_X7_isMention) (As := [.int a2]) (b := 78) (st := []) (d' := 99) (mc := 0) (ms := 0) (host := "") 7 rfl t_X7_isMention ⟨Or.inl q_11_187, i_X7_isMention.1, i_X7_isMention.2⟩ ⟨by decide, rfl⟩ (congrArg Prod.fst (F.1 78 (7, 16) rfl rfl)) rfl (by decide) rfl rfl ⟨by decide, by decide⟩ (jC.of rfl k_X7_isMention rfl ?_)
              show jX m_X7_isMention 99 0 0 0 [(0, .ref 78), (1, .int a2)] [] _ 0 0 _
              refine x_iloadn (x := a2) rfl rfl ?_
              refine x_iflt (tgt := 41) rfl rfl (ti_lt (show (a2 : Int32).toInt = a2.toInt from rfl) (show (0 : Int32).toInt = 0 by decide) ⟨fun c7 => ?_, fun c7 => ?_⟩)
              ·
                refine x_iconst (v := 0) rfl ki_0 ?_
                refine x_zret rfl rfl (by first | decide | exact jp_01 _) ?_
                show jX m_X11_hold 100 0 0 42 [(0, .ref 31), (1, .int a1), (2, .int a2), (3, .int a3), (4, .int a4)] [.int 0] _ 0 0 _
                refine x_ifne (tgt := 52) rfl rfl (bn_f (by decide) ?_)
                refine x_aloadn (x := 31) rfl rfl ?_
                refine x_bipush (v := (-2)) rfl kb_m2 ?_
                refine x_inv (N := m_X11_refuse) (As := [.int (-2)]) (b := 31) (st := []) (d' := 99) (mc := 0) (ms := 0) (host := "") 11 rfl t_X11_refuse ⟨Or.inl q_11_206, i_X11_refuse.1, i_X11_refuse.2⟩ ⟨by decide, rfl⟩ (congrArg Prod.fst (F.1 31 (11, 13) rfl rfl)) rfl (by decide) rfl rfl ⟨by decide, by decide⟩ (jC.of rfl k_X11_refuse rfl ?_)
                show jX m_X11_refuse 99 0 0 0 [(0, .ref 31), (1, .int (-2))] [] _ 0 0 _
                refine x_aloadn (x := 31) rfl rfl ?_
                refine x_iloadn (x := (-2)) rfl rfl ?_
                refine x_putI 11 12 rfl f_11_94 rfl (jfin_no TX11 RX11 13 rfl rfl) (congrArg Prod.fst (F.1 31 (11, 13) rfl rfl)) rfl ?_
                refine x_iloadn (x := (-2)) rfl rfl ?_
                refine x_iret rfl rfl ?_
                show jX m_X11_hold 100 0 0 51 [(0, .ref 31), (1, .int a1), (2, .int a2), (3, .int a3), (4, .int a4)] [.int (-2)] _ 0 0 _
                refine x_iret rfl rfl ?_
                exact jqe (show sp_hold a1 a2 a3 a4 = (-2) by unfold sp_hold; (repeat' split) <;> first | rfl | (exfalso; omega)) (hQ _ (by repeat (first | exact FM | refine jFb_si rfl ?_ | refine jFb_sl rfl ?_ | refine jFb_ci rfl ?_ | refine jFb_cl rfl ?_ | refine jFb_sr rfl ?_)) (by repeat (first | exact O | refine jOl_si rfl ?_ | refine jOl_sl rfl ?_ | refine jOl_ci rfl ?_ | refine jOl_cl rfl ?_ | refine jOl_sr rfl ?_)))
              ·
                refine x_iloadn (x := a2) rfl rfl ?_
                refine x_sipush (v := 600) rfl ks_600 ?_
                refine x_icge (tgt := 41) rfl rfl (ti_ge (show (a2 : Int32).toInt = a2.toInt from rfl) (show (600 : Int32).toInt = 600 by decide) ⟨fun c8 => ?_, fun c8 => ?_⟩)
                ·
                  refine x_iconst (v := 0) rfl ki_0 ?_
                  refine x_zret rfl rfl (by first | decide | exact jp_01 _) ?_
                  show jX m_X11_hold 100 0 0 42 [(0, .ref 31), (1, .int a1), (2, .int a2), (3, .int a3), (4, .int a4)] [.int 0] _ 0 0 _
                  refine x_ifne (tgt := 52) rfl rfl (bn_f (by decide) ?_)
                  refine x_aloadn (x := 31) rfl rfl ?_
                  refine x_bipush (v := (-2)) rfl kb_m2 ?_
                  refine x_inv (N := m_X11_refuse) (As := [.int (-2)]) (b := 31) (st := []) (d' := 99) (mc := 0) (ms := 0) (host := "") 11 rfl t_X11_refuse ⟨Or.inl q_11_206, i_X11_refuse.1, i_X11_refuse.2⟩ ⟨by decide, rfl⟩ (congrArg Prod.fst (F.1 31 (11, 13) rfl rfl)) rfl (by decide) rfl rfl ⟨by decide, by decide⟩ (jC.of rfl k_X11_refuse rfl ?_)
                  show jX m_X11_refuse 99 0 0 0 [(0, .ref 31), (1, .int (-2))] [] _ 0 0 _
                  refine x_aloadn (x := 31) rfl rfl ?_
                  refine x_iloadn (x := (-2)) rfl rfl ?_
                  refine x_putI 11 12 rfl f_11_94 rfl (jfin_no TX11 RX11 13 rfl rfl) (congrArg Prod.fst (F.1 31 (11, 13) rfl rfl)) rfl ?_
                  refine x_iloadn (x := (-2)) rfl rfl ?_
                  refine x_iret rfl rfl ?_
                  show jX m_X11_hold 100 0 0 51 [(0, .ref 31), (1, .int a1), (2, .int a2), (3, .int a3), (4, .int a4)] [.int (-2)] _ 0 0 _
                  refine x_iret rfl rfl ?_
                  exact jqe (show sp_hold a1 a2 a3 a4 = (-2) by unfold sp_hold; (repeat' split) <;> first | rfl | (exfalso; omega)) (hQ _ (by repeat (first | exact FM | refine jFb_si rfl ?_ | refine jFb_sl rfl ?_ | refine jFb_ci rfl ?_ | refine jFb_cl rfl ?_ | refine jFb_sr rfl ?_)) (by repeat (first | exact O | refine jOl_si rfl ?_ | refine jOl_sl rfl ?_ | refine jOl_ci rfl ?_ | refine jOl_cl rfl ?_ | refine jOl_sr rfl ?_)))
                ·
                  refine x_iloadn (x := a2) rfl rfl ?_
                  refine x_iconst (v := 3) rfl ki_3 ?_
                  refine x_idiv rfl (by decide) ?_
                  refine x_aloadn (x := 78) rfl rfl ?_
                  refine x_getR (b := 32) 7 0 rfl f_7_55 rfl (congrArg Prod.fst (F.1 78 (7, 16) rfl rfl)) (F.2.1 9984 32 rfl rfl) ?_
                  refine x_getR (b := 33) 1 0 rfl f_7_63 rfl (congrArg Prod.fst (F.1 32 (1, 20) rfl rfl)) (F.2.1 4096 33 rfl rfl) ?_
                  refine y_getI (v := 0) 8 3 rfl f_7_85 rfl (congrArg Prod.fst (F.1 33 (8, 4) rfl rfl)) (F.2.2.1 4227 0 rfl rfl) ?_
                  refine x_icge (tgt := 41) rfl rfl (ti_ge (show (a2 / 3 : Int32).toInt = (a2 / 3).toInt from rfl) (show (0 : Int32).toInt = 0 by decide) ⟨fun c9 => ?_, fun c9 => ?_⟩)
                  ·
                    refine x_iconst (v := 0) rfl ki_0 ?_
                    refine x_zret rfl rfl (by first | decide | exact jp_01 _) ?_
                    show jX m_X11_hold 100 0 0 42 [(0, .ref 31), (1, .int a1), (2, .int a2), (3, .int a3), (4, .int a4)] [.int 0] _ 0 0 _
                    refine x_ifne (tgt := 52) rfl rfl (bn_f (by decide) ?_)
                    refine x_aloadn (x := 31) rfl rfl ?_
                    refine x_bipush (v := (-2)) rfl kb_m2 ?_
                    refine x_inv (N := m_X11_refuse) (As := [.int (-2)]) (b := 31) (st := []) (d' := 99) (mc := 0) (ms := 0) (host := "") 11 rfl t_X11_refuse ⟨Or.inl q_11_206, i_X11_refuse.1, i_X11_refuse.2⟩ ⟨by decide, rfl⟩ (congrArg Prod.fst (F.1 31 (11, 13) rfl rfl)) rfl (by decide) rfl rfl ⟨by decide, by decide⟩ (jC.of rfl k_X11_refuse rfl ?_)
                    show jX m_X11_refuse 99 0 0 0 [(0, .ref 31), (1, .int (-2))] [] _ 0 0 _
                    refine x_aloadn (x := 31) rfl rfl ?_
                    refine x_iloadn (x := (-2)) rfl rfl ?_
                    refine x_putI 11 12 rfl f_11_94 rfl (jfin_no TX11 RX11 13 rfl rfl) (congrArg Prod.fst (F.1 31 (11, 13) rfl rfl)) rfl ?_
                    refine x_iloadn (x := (-2)) rfl rfl ?_
                    refine x_iret rfl rfl ?_
                    show jX m_X11_hold 100 0 0 51 [(0, .ref 31), (1, .int a1), (2, .int a2), (3, .int a3), (4, .int a4)] [.int (-2)] _ 0 0 _
                    refine x_iret rfl rfl ?_
                    exact jqe (show sp_hold a1 a2 a3 a4 = (-2) by unfold sp_hold; (repeat' split) <;> first | rfl | (exfalso; omega)) (hQ _ (by repeat (first | exact FM | refine jFb_si rfl ?_ | refine jFb_sl rfl ?_ | refine jFb_ci rfl ?_ | refine jFb_cl rfl ?_ | refine jFb_sr rfl ?_)) (by repeat (first | exact O | refine jOl_si rfl ?_ | refine jOl_sl rfl ?_ | refine jOl_ci rfl ?_ | refine jOl_cl rfl ?_ | refine jOl_sr rfl ?_)))
                  ·
                    refine x_aloadn (x := 78) rfl rfl ?_
                    refine x_getR (b := 79) 7 7 rfl f_7_27 rfl (congrArg Prod.fst (F.1 78 (7, 16) rfl rfl)) (F.2.1 9991 79 rfl rfl) ?_
                    refine x_iloadn (x := a2) rfl rfl ?_
                    refine y_iald (v := 0) (N := 600) a2.toNatClampNeg rfl (F.1 79 (100, 600) rfl rfl) (vpi (by omega)) rfl (F.2.2.2.1 79 rfl rfl _).1 ?_
                    refine x_iconst (v := (-1)) rfl ki_m1 ?_
                    refine x_iceq (tgt := 41) rfl rfl (br_f (by decide) ?_)
                    refine x_iconst (v := 1) rfl ki_1 ?_
                    refine x_goto (tgt := 42) rfl rfl ?_
                    refine x_zret rfl rfl (by first | decide | exact jp_01 _) ?_
                    show jX m_X11_hold 100 0 0 42 [(0, .ref 31), (1, .int a1), (2, .int a2), (3, .int a3), (4, .int a4)] [.int 1] _ 0 0 _
                    refine x_ifne (tgt := 52) rfl rfl (bn_t (by decide) ?_)
                    refine x_aloadn (x := 31) rfl rfl ?_
                    refine x_getR (b := 32) 11 0 rfl f_11_10 rfl (congrArg Prod.fst (F.1 31 (11, 13) rfl rfl)) (F.2.1 3968 32 rfl rfl) ?_
                    refine x_getR (b := 51) 1 9 rfl f_11_421 rfl (congrArg Prod.fst (F.1 32 (1, 20) rfl rfl)) (F.2.1 4105 51 rfl rfl) ?_
                    refine x_inv (N := m_X8_isFull) (As := []) (b := 51) (st := []) (d' := 99) (mc := 0) (ms := 0) (host := "") 8 rfl t_X8_isFull ⟨Or.inl q_11_130, i_X8_isFull.1, i_X8_isFull.2⟩ ⟨by decide, rfl⟩ (congrArg Prod.fst (F.1 51 (8, 4) rfl rfl)) rfl (by decide) rfl rfl ⟨by decide, by decide⟩ (jC.of rfl k_X8_isFull rfl ?_)
                    show jX m_X8_isFull 99 0 0 0 [(0, .ref 51)] [] _ 0 0 _
                    refine x_aloadn (x := 51) rfl rfl ?_
                    refine y_getI (v := 0) 8 3 rfl f_8_7 rfl (congrArg Prod.fst (F.1 51 (8, 4) rfl rfl)) (F.2.2.1 6531 0 rfl rfl) ?_
                    refine x_aloadn (x := 51) rfl rfl ?_
                    refine y_getI (v := 100) 8 1 rfl f_8_22 rfl (congrArg Prod.fst (F.1 51 (8, 4) rfl rfl)) (F.2.2.1 6529 100 rfl rfl) ?_
                    refine x_iclt (tgt := 15) rfl rfl (br_t (by decide) ?_)
                    refine x_iconst (v := 0) rfl ki_0 ?_
                    refine x_zret rfl rfl (by first | decide | exact jp_01 _) ?_
                    show jX m_X11_hold 100 0 0 62 [(0, .ref 31), (1, .int a1), (2, .int a2), (3, .int a3), (4, .int a4)] [.int 0] _ 0 0 _
                    refine x_ifeq (tgt := 72) rfl rfl (br_t (by decide) ?_)
                    refine x_aloadn (x := 31) rfl rfl ?_
                    refine x_getR (b := 32) 11 0 rfl f_11_10 rfl (congrArg Prod.fst (F.1 31 (11, 13) rfl rfl)) (F.2.1 3968 32 rfl rfl) ?_
                    refine x_getR (b := 51) 1 9 rfl f_11_421 rfl (congrArg Prod.fst (F.1 32 (1, 20) rfl rfl)) (F.2.1 4105 51 rfl rfl) ?_
                    refine x_iload (x := a4) rfl rfl ?_
                    refine x_iloadn (x := a3) rfl rfl ?_
                    refine x_iloadn (x := a1) rfl rfl ?_
                    refine x_iloadn (x := a2) rfl rfl ?_
                    refine x_iconst (v := 0) rfl ki_0 ?_
                    refine x_iconst (v := 0) rfl ki_0 ?_
                    refine x_inv (N := m_X8_add) (As := [.int a4, .int a3, .int a1, .int a2, .int 0, .int 0]) (b := 51) (st := []) (d' := 99) (mc := 0) (ms := 0) (host := "") 8 rfl t_X8_add ⟨Or.inl q_11_145, i_X8_add.1, i_X8_add.2⟩ ⟨by decide, rfl⟩ (congrArg Prod.fst (F.1 51 (8, 4) rfl rfl)) rfl (by decide) rfl rfl ⟨by decide, by decide⟩ (jC.of rfl k_X8_add rfl ?_)
                    show jX m_X8_add 99 0 0 0 [(0, .ref 51), (1, .int a4), (2, .int a3), (3, .int a1), (4, .int a2), (5, .int 0), (6, .int 0)] [] _ 0 0 _
                    refine x_aloadn (x := 51) rfl rfl ?_
                    refine y_getI (v := 0) 8 3 rfl f_8_7 rfl (congrArg Prod.fst (F.1 51 (8, 4) rfl rfl)) (F.2.2.1 6531 0 rfl rfl) ?_
                    refine x_aloadn (x := 51) rfl rfl ?_
                    refine y_getI (v := 100) 8 1 rfl f_8_22 rfl (congrArg Prod.fst (F.1 51 (8, 4) rfl rfl)) (F.2.2.1 6529 100 rfl rfl) ?_
                    refine x_iclt (tgt := 12) rfl rfl (br_t (by decide) ?_)
                    refine x_aloadn (x := 51) rfl rfl ?_
                    refine y_getI (v := 0) 8 3 rfl f_8_7 rfl (congrArg Prod.fst (F.1 51 (8, 4) rfl rfl)) (F.2.2.1 6531 0 rfl rfl) ?_
                    refine x_istore (ls' := [(7, .int 0), (0, .ref 51), (1, .int a4), (2, .int a3), (3, .int a1), (4, .int a2), (5, .int 0), (6, .int 0)]) rfl rfl rfl ?_
                    refine x_aloadn (x := 51) rfl rfl ?_
                    refine x_iload (x := 0) rfl rfl ?_
                    refine x_iconst (v := 1) rfl ki_1 ?_
                    refine y_iadd (v := 1) rfl (by decide) ?_
                    refine x_putI 8 3 rfl f_8_7 rfl (jfin_no TX8 RX8 4 rfl rfl) (congrArg Prod.fst (F.1 51 (8, 4) rfl rfl)) rfl ?_
                    refine x_aloadn (x := 51) rfl rfl ?_
                    refine x_iload (x := 0) rfl rfl ?_
                    refine x_iconst (v := 0) rfl ki_0 ?_
                    refine x_iloadn (x := a4) rfl rfl ?_
                    refine x_inv (N := m_X8_put) (As := [.int 0, .int 0, .int a4]) (b := 51) (st := []) (d' := 98) (mc := 0) (ms := 0) (host := "") 8 rfl t_X8_put ⟨Or.inl q_8_29, i_X8_put.1, i_X8_put.2⟩ ⟨by decide, rfl⟩ (congrArg Prod.fst (F.1 51 (8, 4) rfl rfl)) rfl (by decide) rfl rfl ⟨by decide, by decide⟩ (jC.of rfl k_X8_put rfl ?_)
                    show jX m_X8_put 98 0 0 0 [(0, .ref 51), (1, .int 0), (2, .int 0), (3, .int a4)] [] _ 0 0 _
                    refine x_iloadn (x := 0) rfl rfl ?_
                    refine x_iflt (tgt := 38) rfl rfl (br_f (by decide) ?_)
                    refine x_iloadn (x := 0) rfl rfl ?_
                    refine x_aloadn (x := 51) rfl rfl ?_
                    refine y_getI (v := 1) 8 3 rfl f_8_7 rfl (congrArg Prod.fst (F.1 51 (8, 4) rfl rfl)) rfl ?_
                    refine x_icge (tgt := 38) rfl rfl (br_f (by decide) ?_)
                    refine x_iloadn (x := 0) rfl rfl ?_
                    refine x_iflt (tgt := 38) rfl rfl (br_f (by decide) ?_)
                    refine x_iloadn (x := 0) rfl rfl ?_
                    refine x_aloadn (x := 51) rfl rfl ?_
                    refine y_getI (v := 4) 8 0 rfl f_8_19 rfl (congrArg Prod.fst (F.1 51 (8, 4) rfl rfl)) (F.2.2.1 6528 4 rfl rfl) ?_
                    refine x_icge (tgt := 38) rfl rfl (br_f (by decide) ?_)
                    refine x_aloadn (x := 51) rfl rfl ?_
                    refine x_getR (b := 52) 8 2 rfl f_8_25 rfl (congrArg Prod.fst (F.1 51 (8, 4) rfl rfl)) (F.2.1 6530 52 rfl rfl) ?_
                    refine x_iloadn (x := 0) rfl rfl ?_
                    refine x_aloadn (x := 51) rfl rfl ?_
                    refine y_getI (v := 4) 8 0 rfl f_8_19 rfl (congrArg Prod.fst (F.1 51 (8, 4) rfl rfl)) (F.2.2.1 6528 4 rfl rfl) ?_
                    refine y_imul (v := 0) rfl (by decide) ?_
                    refine x_iloadn (x := 0) rfl rfl ?_
                    refine y_iadd (v := 0) rfl (by decide) ?_
                    refine x_iloadn (x := a4) rfl rfl ?_
                    refine y_iast (N := 400) 0 rfl (F.1 52 (100, 400) rfl rfl) rfl (jinb_of (by decide)) (by decide) ?_
                    refine x_vret rfl rfl ?_
                    show jX m_X8_add 99 0 0 34 [(7, .int 0), (0, .ref 51), (1, .int a4), (2, .int a3), (3, .int a1), (4, .int a2), (5, .int 0), (6, .int 0)] [] _ 0 0 _
                    refine x_aloadn (x := 51) rfl rfl ?_
                    refine x_iload (x := 0) rfl rfl ?_
                    refine x_iconst (v := 1) rfl ki_1 ?_
                    refine x_iloadn (x := a3) rfl rfl ?_
                    refine x_inv (N := m_X8_put) (As := [.int 0, .int 1, .int a3]) (b := 51) (st := []) (d' := 98) (mc := 0) (ms := 0) (host := "") 8 rfl t_X8_put ⟨Or.inl q_8_29, i_X8_put.1, i_X8_put.2⟩ ⟨by decide, rfl⟩ (congrArg Prod.fst (F.1 51 (8, 4) rfl rfl)) rfl (by decide) rfl rfl ⟨by decide, by decide⟩ (jC.of rfl k_X8_put rfl ?_)
                    show jX m_X8_put 98 0 0 0 [(0, .ref 51), (1, .int 0), (2, .int 1), (3, .int a3)] [] _ 0 0 _
                    refine x_iloadn (x := 0) rfl rfl ?_
                    refine x_iflt (tgt := 38) rfl rfl (br_f (by decide) ?_)
                    refine x_iloadn (x := 0) rfl rfl ?_
                    refine x_aloadn (x := 51) rfl rfl ?_
                    refine y_getI (v := 1) 8 3 rfl f_8_7 rfl (congrArg Prod.fst (F.1 51 (8, 4) rfl rfl)) rfl ?_
                    refine x_icge (tgt := 38) rfl rfl (br_f (by decide) ?_)
                    refine x_iloadn (x := 1) rfl rfl ?_
                    refine x_iflt (tgt := 38) rfl rfl (br_f (by decide) ?_)
                    refine x_iloadn (x := 1) rfl rfl ?_
                    refine x_aloadn (x := 51) rfl rfl ?_
                    refine y_getI (v := 4) 8 0 rfl f_8_19 rfl (congrArg Prod.fst (F.1 51 (8, 4) rfl rfl)) (F.2.2.1 6528 4 rfl rfl) ?_
                    refine x_icge (tgt := 38) rfl rfl (br_f (by decide) ?_)
                    refine x_aloadn (x := 51) rfl rfl ?_
                    refine x_getR (b := 52) 8 2 rfl f_8_25 rfl (congrArg Prod.fst (F.1 51 (8, 4) rfl rfl)) (F.2.1 6530 52 rfl rfl) ?_
                    refine x_iloadn (x := 0) rfl rfl ?_
                    refine x_aloadn (x := 51) rfl rfl ?_
                    refine y_getI (v := 4) 8 0 rfl f_8_19 rfl (congrArg Prod.fst (F.1 51 (8, 4) rfl rfl)) (F.2.2.1 6528 4 rfl rfl) ?_
                    refine y_imul (v := 0) rfl (by decide) ?_
                    refine x_iloadn (x := 1) rfl rfl ?_
                    refine y_iadd (v := 1) rfl (by decide) ?_
                    refine x_iloadn (x := a3) rfl rfl ?_
                    refine y_iast (N := 400) 1 rfl (F.1 52 (100, 400) rfl rfl) rfl (jinb_of (by decide)) (by decide) ?_
                    refine x_vret rfl rfl ?_
                    show jX m_X8_add 99 0 0 42 [(7, .int 0), (0, .ref 51), (1, .int a4), (2, .int a3), (3, .int a1), (4, .int a2), (5, .int 0), (6, .int 0)] [] _ 0 0 _
                    refine x_aloadn (x := 51) rfl rfl ?_
                    refine x_iload (x := 0) rfl rfl ?_
                    refine x_iconst (v := 2) rfl ki_2 ?_
                    refine x_iloadn (x := a1) rfl rfl ?_
                    refine x_inv (N := m_X8_put) (As := [.int 0, .int 2, .int a1]) (b := 51) (st := []) (d' := 98) (mc := 0) (ms := 0) (host := "") 8 rfl t_X8_put ⟨Or.inl q_8_29, i_X8_put.1, i_X8_put.2⟩ ⟨by decide, rfl⟩ (congrArg Prod.fst (F.1 51 (8, 4) rfl rfl)) rfl (by decide) rfl rfl ⟨by decide, by decide⟩ (jC.of rfl k_X8_put rfl ?_)
                    show jX m_X8_put 98 0 0 0 [(0, .ref 51), (1, .int 0), (2, .int 2), (3, .int a1)] [] _ 0 0 _
                    refine x_iloadn (x := 0) rfl rfl ?_
                    refine x_iflt (tgt := 38) rfl rfl (br_f (by decide) ?_)
                    refine x_iloadn (x := 0) rfl rfl ?_
                    refine x_aloadn (x := 51) rfl rfl ?_
                    refine y_getI (v := 1) 8 3 rfl f_8_7 rfl (congrArg Prod.fst (F.1 51 (8, 4) rfl rfl)) rfl ?_
                    refine x_icge (tgt := 38) rfl rfl (br_f (by decide) ?_)
                    refine x_iloadn (x := 2) rfl rfl ?_
                    refine x_iflt (tgt := 38) rfl rfl (br_f (by decide) ?_)
                    refine x_iloadn (x := 2) rfl rfl ?_
                    refine x_aloadn (x := 51) rfl rfl ?_
                    refine y_getI (v := 4) 8 0 rfl f_8_19 rfl (congrArg Prod.fst (F.1 51 (8, 4) rfl rfl)) (F.2.2.1 6528 4 rfl rfl) ?_
                    refine x_icge (tgt := 38) rfl rfl (br_f (by decide) ?_)
                    refine x_aloadn (x := 51) rfl rfl ?_
                    refine x_getR (b := 52) 8 2 rfl f_8_25 rfl (congrArg Prod.fst (F.1 51 (8, 4) rfl rfl)) (F.2.1 6530 52 rfl rfl) ?_
                    refine x_iloadn (x := 0) rfl rfl ?_
                    refine x_aloadn (x := 51) rfl rfl ?_
                    refine y_getI (v := 4) 8 0 rfl f_8_19 rfl (congrArg Prod.fst (F.1 51 (8, 4) rfl rfl)) (F.2.2.1 6528 4 rfl rfl) ?_
                    refine y_imul (v := 0) rfl (by decide) ?_
                    refine x_iloadn (x := 2) rfl rfl ?_
                    refine y_iadd (v := 2) rfl (by decide) ?_
                    refine x_iloadn (x := a1) rfl rfl ?_
                    refine y_iast (N := 400) 2 rfl (F.1 52 (100, 400) rfl rfl) rfl (jinb_of (by decide)) (by decide) ?_
                    refine x_vret rfl rfl ?_
                    show jX m_X8_add 99 0 0 50 [(7, .int 0), (0, .ref 51), (1, .int a4), (2, .int a3), (3, .int a1), (4, .int a2), (5, .int 0), (6, .int 0)] [] _ 0 0 _
                    refine x_aloadn (x := 51) rfl rfl ?_
                    refine x_iload (x := 0) rfl rfl ?_
                    refine x_iconst (v := 3) rfl ki_3 ?_
                    refine x_iload (x := a2) rfl rfl ?_
                    refine x_inv (N := m_X8_put) (As := [.int 0, .int 3, .int a2]) (b := 51) (st := []) (d' := 98) (mc := 0) (ms := 0) (host := "") 8 rfl t_X8_put ⟨Or.inl q_8_29, i_X8_put.1, i_X8_put.2⟩ ⟨by decide, rfl⟩ (congrArg Prod.fst (F.1 51 (8, 4) rfl rfl)) rfl (by decide) rfl rfl ⟨by decide, by decide⟩ (jC.of rfl k_X8_put rfl ?_)
                    show jX m_X8_put 98 0 0 0 [(0, .ref 51), (1, .int 0), (2, .int 3), (3, .int a2)] [] _ 0 0 _
                    refine x_iloadn (x := 0) rfl rfl ?_
                    refine x_iflt (tgt := 38) rfl rfl (br_f (by decide) ?_)
                    refine x_iloadn (x := 0) rfl rfl ?_
                    refine x_aloadn (x := 51) rfl rfl ?_
                    refine y_getI (v := 1) 8 3 rfl f_8_7 rfl (congrArg Prod.fst (F.1 51 (8, 4) rfl rfl)) rfl ?_
                    refine x_icge (tgt := 38) rfl rfl (br_f (by decide) ?_)
                    refine x_iloadn (x := 3) rfl rfl ?_
                    refine x_iflt (tgt := 38) rfl rfl (br_f (by decide) ?_)
                    refine x_iloadn (x := 3) rfl rfl ?_
                    refine x_aloadn (x := 51) rfl rfl ?_
                    refine y_getI (v := 4) 8 0 rfl f_8_19 rfl (congrArg Prod.fst (F.1 51 (8, 4) rfl rfl)) (F.2.2.1 6528 4 rfl rfl) ?_
                    refine x_icge (tgt := 38) rfl rfl (br_f (by decide) ?_)
                    refine x_aloadn (x := 51) rfl rfl ?_
                    refine x_getR (b := 52) 8 2 rfl f_8_25 rfl (congrArg Prod.fst (F.1 51 (8, 4) rfl rfl)) (F.2.1 6530 52 rfl rfl) ?_
                    refine x_iloadn (x := 0) rfl rfl ?_
                    refine x_aloadn (x := 51) rfl rfl ?_
                    refine y_getI (v := 4) 8 0 rfl f_8_19 rfl (congrArg Prod.fst (F.1 51 (8, 4) rfl rfl)) (F.2.2.1 6528 4 rfl rfl) ?_
                    refine y_imul (v := 0) rfl (by decide) ?_
                    refine x_iloadn (x := 3) rfl rfl ?_
                    refine y_iadd (v := 3) rfl (by decide) ?_
                    refine x_iloadn (x := a2) rfl rfl ?_
                    refine y_iast (N := 400) 3 rfl (F.1 52 (100, 400) rfl rfl) rfl (jinb_of (by decide)) (by decide) ?_
                    refine x_vret rfl rfl ?_
                    show jX m_X8_add 99 0 0 59 [(7, .int 0), (0, .ref 51), (1, .int a4), (2, .int a3), (3, .int a1), (4, .int a2), (5, .int 0), (6, .int 0)] [] _ 0 0 _
                    refine x_aloadn (x := 51) rfl rfl ?_
                    refine x_iload (x := 0) rfl rfl ?_
                    refine x_iconst (v := 4) rfl ki_4 ?_
                    refine x_iload (x := 0) rfl rfl ?_
                    refine x_inv (N := m_X8_put) (As := [.int 0, .int 4, .int 0]) (b := 51) (st := []) (d' := 98) (mc := 0) (ms := 0) (host := "") 8 rfl t_X8_put ⟨Or.inl q_8_29, i_X8_put.1, i_X8_put.2⟩ ⟨by decide, rfl⟩ (congrArg Prod.fst (F.1 51 (8, 4) rfl rfl)) rfl (by decide) rfl rfl ⟨by decide, by decide⟩ (jC.of rfl k_X8_put rfl ?_)
                    show jX m_X8_put 98 0 0 0 [(0, .ref 51), (1, .int 0), (2, .int 4), (3, .int 0)] [] _ 0 0 _
                    refine x_iloadn (x := 0) rfl rfl ?_
                    refine x_iflt (tgt := 38) rfl rfl (br_f (by decide) ?_)
                    refine x_iloadn (x := 0) rfl rfl ?_
                    refine x_aloadn (x := 51) rfl rfl ?_
                    refine y_getI (v := 1) 8 3 rfl f_8_7 rfl (congrArg Prod.fst (F.1 51 (8, 4) rfl rfl)) rfl ?_
                    refine x_icge (tgt := 38) rfl rfl (br_f (by decide) ?_)
                    refine x_iloadn (x := 4) rfl rfl ?_
                    refine x_iflt (tgt := 38) rfl rfl (br_f (by decide) ?_)
                    refine x_iloadn (x := 4) rfl rfl ?_
                    refine x_aloadn (x := 51) rfl rfl ?_
                    refine y_getI (v := 4) 8 0 rfl f_8_19 rfl (congrArg Prod.fst (F.1 51 (8, 4) rfl rfl)) (F.2.2.1 6528 4 rfl rfl) ?_
                    refine x_icge (tgt := 38) rfl rfl (br_t (by decide) ?_)
                    refine x_vret rfl rfl ?_
                    show jX m_X8_add 99 0 0 68 [(7, .int 0), (0, .ref 51), (1, .int a4), (2, .int a3), (3, .int a1), (4, .int a2), (5, .int 0), (6, .int 0)] [] _ 0 0 _
                    refine x_aloadn (x := 51) rfl rfl ?_
                    refine x_iload (x := 0) rfl rfl ?_
                    refine x_iconst (v := 5) rfl ki_5 ?_
                    refine x_iload (x := 0) rfl rfl ?_
                    refine x_inv (N := m_X8_put) (As := [.int 0, .int 5, .int 0]) (b := 51) (st := []) (d' := 98) (mc := 0) (ms := 0) (host := "") 8 rfl t_X8_put ⟨Or.inl q_8_29, i_X8_put.1, i_X8_put.2⟩ ⟨by decide, rfl⟩ (congrArg Prod.fst (F.1 51 (8, 4) rfl rfl)) rfl (by decide) rfl rfl ⟨by decide, by decide⟩ (jC.of rfl k_X8_put rfl ?_)
                    show jX m_X8_put 98 0 0 0 [(0, .ref 51), (1, .int 0), (2, .int 5), (3, .int 0)] [] _ 0 0 _
                    refine x_iloadn (x := 0) rfl rfl ?_
                    refine x_iflt (tgt := 38) rfl rfl (br_f (by decide) ?_)
                    refine x_iloadn (x := 0) rfl rfl ?_
                    refine x_aloadn (x := 51) rfl rfl ?_
                    refine y_getI (v := 1) 8 3 rfl f_8_7 rfl (congrArg Prod.fst (F.1 51 (8, 4) rfl rfl)) rfl ?_
                    refine x_icge (tgt := 38) rfl rfl (br_f (by decide) ?_)
                    refine x_iloadn (x := 5) rfl rfl ?_
                    refine x_iflt (tgt := 38) rfl rfl (br_f (by decide) ?_)
                    refine x_iloadn (x := 5) rfl rfl ?_
                    refine x_aloadn (x := 51) rfl rfl ?_
                    refine y_getI (v := 4) 8 0 rfl f_8_19 rfl (congrArg Prod.fst (F.1 51 (8, 4) rfl rfl)) (F.2.2.1 6528 4 rfl rfl) ?_
                    refine x_icge (tgt := 38) rfl rfl (br_t (by decide) ?_)
                    refine x_vret rfl rfl ?_
                    show jX m_X8_add 99 0 0 77 [(7, .int 0), (0, .ref 51), (1, .int a4), (2, .int a3), (3, .int a1), (4, .int a2), (5, .int 0), (6, .int 0)] [] _ 0 0 _
                    refine x_vret rfl rfl ?_
                    show jX m_X11_hold 100 0 0 89 [(0, .ref 31), (1, .int a1), (2, .int a2), (3, .int a3), (4, .int a4)] [] _ 0 0 _
                    refine x_aloadn (x := 31) rfl rfl ?_
                    refine x_aloadn (x := 31) rfl rfl ?_
                    refine x_getR (b := 32) 11 0 rfl f_11_10 rfl (congrArg Prod.fst (F.1 31 (11, 13) rfl rfl)) (F.2.1 3968 32 rfl rfl) ?_
                    refine x_getR (b := 51) 1 9 rfl f_11_421 rfl (congrArg Prod.fst (F.1 32 (1, 20) rfl rfl)) (F.2.1 4105 51 rfl rfl) ?_
                    refine y_getI (v := 1) 8 3 rfl f_11_142 rfl (congrArg Prod.fst (F.1 51 (8, 4) rfl rfl)) rfl ?_
                    refine x_inv (N := m_X11_accept) (As := [.int 1]) (b := 31) (st := []) (d' := 99) (mc := 0) (ms := 0) (host := "") 11 rfl t_X11_accept ⟨Or.inl q_11_165, i_X11_accept.1, i_X11_accept.2⟩ ⟨by decide, rfl⟩ (congrArg Prod.fst (F.1 31 (11, 13) rfl rfl)) rfl (by decide) rfl rfl ⟨by decide, by decide⟩ (jC.of rfl k_X11_accept rfl ?_)
                    show jX m_X11_accept 99 0 0 0 [(0, .ref 31), (1, .int 1)] [] _ 0 0 _
                    refine x_aloadn (x := 31) rfl rfl ?_
                    refine x_iconst (v := 0) rfl ki_0 ?_
                    refine x_putI 11 12 rfl f_11_94 rfl (jfin_no TX11 RX11 13 rfl rfl) (congrArg Prod.fst (F.1 31 (11, 13) rfl rfl)) rfl ?_
                    refine x_aloadn (x := 31) rfl rfl ?_
                    refine x_getR (b := 32) 11 0 rfl f_11_10 rfl (congrArg Prod.fst (F.1 31 (11, 13) rfl rfl)) (F.2.1 3968 32 rfl rfl) ?_
                    refine x_dup rfl rfl ?_
                    refine y_getI (v := 1) 1 19 rfl f_11_528 rfl (congrArg Prod.fst (F.1 32 (1, 20) rfl rfl)) (F.2.2.1 4115 1 rfl rfl) ?_
                    refine x_iconst (v := 1) rfl ki_1 ?_
                    refine y_iadd (v := 2) rfl (by decide) ?_
                    refine x_putI 1 19 rfl f_11_528 rfl (jfin_no TX1 RX1 20 rfl rfl) (congrArg Prod.fst (F.1 32 (1, 20) rfl rfl)) rfl ?_
                    refine x_iloadn (x := 1) rfl rfl ?_
                    refine x_iret rfl rfl ?_
                    show jX m_X11_hold 100 0 0 103 [(0, .ref 31), (1, .int a1), (2, .int a2), (3, .int a3), (4, .int a4)] [.int 1] _ 0 0 _
                    refine x_iret rfl rfl ?_
                    exact jqe (show sp_hold a1 a2 a3 a4 = 1 by unfold sp_hold; (repeat' split) <;> first | rfl | (exfalso; omega)) (hQ _ (by repeat (first | exact FM | refine jFb_si rfl ?_ | refine jFb_sl rfl ?_ | refine jFb_ci rfl ?_ | refine jFb_cl rfl ?_ | refine jFb_sr rfl ?_)) (by repeat (first | exact O | refine jOl_si rfl ?_ | refine jOl_sl rfl ?_ | refine jOl_ci rfl ?_ | refine jOl_cl rfl ?_ | refine jOl_sr rfl ?_)))
    ·
      refine x_aloadn (x := 31) rfl rfl ?_
      refine x_iconst (v := (-1)) rfl ki_m1 ?_
      refine x_inv (N := m_X11_refuse) (As := [.int (-1)]) (b := 31) (st := []) (d' := 99) (mc := 0) (ms := 0) (host := "") 11 rfl t_X11_refuse ⟨Or.inl q_11_206, i_X11_refuse.1, i_X11_refuse.2⟩ ⟨by decide, rfl⟩ (congrArg Prod.fst (F.1 31 (11, 13) rfl rfl)) rfl (by decide) rfl rfl ⟨by decide, by decide⟩ (jC.of rfl k_X11_refuse rfl ?_)
      show jX m_X11_refuse 99 0 0 0 [(0, .ref 31), (1, .int (-1))] [] _ 0 0 _
      refine x_aloadn (x := 31) rfl rfl ?_
      refine x_iloadn (x := (-1)) rfl rfl ?_
      refine x_putI 11 12 rfl f_11_94 rfl (jfin_no TX11 RX11 13 rfl rfl) (congrArg Prod.fst (F.1 31 (11, 13) rfl rfl)) rfl ?_
      refine x_iloadn (x := (-1)) rfl rfl ?_
      refine x_iret rfl rfl ?_
      show jX m_X11_hold 100 0 0 20 [(0, .ref 31), (1, .int a1), (2, .int a2), (3, .int a3), (4, .int a4)] [.int (-1)] _ 0 0 _
      refine x_iret rfl rfl ?_
      exact jqe (show sp_hold a1 a2 a3 a4 = (-1) by unfold sp_hold; (repeat' split) <;> first | rfl | (exfalso; omega)) (hQ _ (by repeat (first | exact FM | refine jFb_si rfl ?_ | refine jFb_sl rfl ?_ | refine jFb_ci rfl ?_ | refine jFb_cl rfl ?_ | refine jFb_sr rfl ?_)) (by repeat (first | exact O | refine jOl_si rfl ?_ | refine jOl_sl rfl ?_ | refine jOl_ci rfl ?_ | refine jOl_cl rfl ?_ | refine jOl_sr rfl ?_)))
set_option maxRecDepth 100000 in
set_option maxHeartbeats 40000000 in
theorem pm_hold (a1 a2 a3 a4 : Int32) {xs : Nat → Int32} {h : jH} {Q : Option Value → jH → Prop} (F : jFb 125 h) (O : jOl 7 xs h) (hQ : ∀ h', jOl 7 xs h' → Q (some (.int (sp_hold a1 a2 a3 a4))) h') : jC m_X12_hold 100 0 0 [.ref 125, .int a1, .int a2, .int a3, .int a4] h Q := by
  refine jC.of rfl k_X12_hold rfl ?_
  show jX m_X12_hold 100 0 0 0 [(0, .ref 125), (1, .int a1), (2, .int a2), (3, .int a3), (4, .int a4)] [] _ 0 0 _
  refine x_aloadn (x := 125) rfl rfl ?_
  refine x_iconst (v := 0) rfl ki_0 ?_
  refine x_putI 12 0 rfl f_12_180 rfl (jfin_no TX12 RX12 92 rfl rfl) (congrArg Prod.fst (F.1 125 (12, 92) rfl rfl)) rfl ?_
  refine x_iloadn (x := a3) rfl rfl ?_
  refine x_inst (N := m_X12_isDay) (As := [.int a3]) (st := []) (d' := 99) (mc := 0) (ms := 0) (host := "") rfl t_X12_isDay ⟨Or.inl q_12_273, s_X12_isDay⟩ rfl (by decide) rfl rfl ⟨by decide, by decide⟩ (c_X12_isDay (x := a3) ?_)
  show jX m_X12_hold 100 0 0 9 [(0, .ref 125), (1, .int a1), (2, .int a2), (3, .int a3), (4, .int a4)] [.int (jp (0 ≤ a3.toInt ∧ a3.toInt ≤ 146399))] _ 0 0 _
  refine x_ifeq (tgt := 20) rfl rfl (jpe ⟨fun c1 => ?_, fun c1 => ?_⟩)
  ·
    refine x_aloadn (x := 125) rfl rfl ?_
    refine x_iconst (v := (-1)) rfl ki_m1 ?_
    refine x_inv (N := m_X12_told) (As := [.int (-1)]) (b := 125) (st := []) (d' := 99) (mc := 0) (ms := 0) (host := "") 12 rfl t_X12_told ⟨Or.inl q_12_197, i_X12_told.1, i_X12_told.2⟩ ⟨by decide, rfl⟩ (congrArg Prod.fst (F.1 125 (12, 92) rfl rfl)) rfl (by decide) rfl rfl ⟨by decide, by decide⟩ (jC.of rfl k_X12_told rfl ?_)
    show jX m_X12_told 99 0 0 0 [(0, .ref 125), (1, .int (-1))] [] _ 0 0 _
    refine x_aloadn (x := 125) rfl rfl ?_
    refine x_iloadn (x := (-1)) rfl rfl ?_
    refine x_ifge (tgt := 9) rfl rfl (br_f (by decide) ?_)
    refine x_iloadn (x := (-1)) rfl rfl ?_
    refine x_goto (tgt := 10) rfl rfl ?_
    refine x_putI 12 1 rfl f_12_183 rfl (jfin_no TX12 RX12 92 rfl rfl) (congrArg Prod.fst (F.1 125 (12, 92) rfl rfl)) rfl ?_
    refine x_iloadn (x := (-1)) rfl rfl ?_
    refine x_iret rfl rfl ?_
    show jX m_X12_hold 100 0 0 25 [(0, .ref 125), (1, .int a1), (2, .int a2), (3, .int a3), (4, .int a4)] [.int (-1)] _ 0 0 _
    refine x_iret rfl rfl ?_
    exact jqe (show sp_hold a1 a2 a3 a4 = (-1) by unfold sp_hold; (repeat' split) <;> first | rfl | (exfalso; omega)) (hQ _ (by repeat (first | exact O | refine jOl_si rfl ?_ | refine jOl_sl rfl ?_ | refine jOl_ci rfl ?_ | refine jOl_cl rfl ?_ | refine jOl_sr rfl ?_)))
  ·
    refine x_iload (x := a4) rfl rfl ?_
    refine x_inst (N := m_X12_isDay) (As := [.int a4]) (st := []) (d' := 99) (mc := 0) (ms := 0) (host := "") rfl t_X12_isDay ⟨Or.inl q_12_273, s_X12_isDay⟩ rfl (by decide) rfl rfl ⟨by decide, by decide⟩ (c_X12_isDay (x := a4) ?_)
    show jX m_X12_hold 100 0 0 17 [(0, .ref 125), (1, .int a1), (2, .int a2), (3, .int a3), (4, .int a4)] [.int (jp (0 ≤ a4.toInt ∧ a4.toInt ≤ 146399))] _ 0 0 _
    refine x_ifne (tgt := 26) rfl rfl (jpn ⟨fun c2 => ?_, fun c2 => ?_⟩)
    ·
      refine x_aloadn (x := 125) rfl rfl ?_
      refine x_iloadn (x := a1) rfl rfl ?_
      refine x_inv (N := m_X12_isHolding) (As := [.int a1]) (b := 125) (st := []) (d' := 99) (mc := 0) (ms := 0) (host := "") 12 rfl t_X12_isHolding ⟨Or.inl q_12_811, i_X12_isHolding.1, i_X12_isHolding.2⟩ ⟨by decide, rfl⟩ (congrArg Prod.fst (F.1 125 (12, 92) rfl rfl)) rfl (by decide) rfl rfl ⟨by decide, by decide⟩ (jC.of rfl k_X12_isHolding rfl ?_)
      show jX m_X12_isHolding 99 0 0 0 [(0, .ref 125), (1, .int a1)] [] _ 0 0 _
      refine x_iloadn (x := a1) rfl rfl ?_
      refine x_i2l rfl ?_
      refine x_lconst (v := 0) rfl kl_0 ?_
      refine x_aloadn (x := 125) rfl rfl ?_
      refine x_getR (b := 126) 12 2 rfl f_12_8 rfl (congrArg Prod.fst (F.1 125 (12, 92) rfl rfl)) (F.2.1 16002 126 rfl rfl) ?_
      refine x_bipush (v := 7) rfl kb_7 ?_
      refine y_iald (v := 0) (N := 50660) 7 rfl (F.1 126 (100, 50660) rfl rfl) (jinb_of (by decide)) (by decide) (F.2.2.2.1 126 rfl rfl 7).1 ?_
      refine y_i2l (v := 0) rfl (by decide) ?_
      refine x_lconst (v := 1) rfl kl_1 ?_
      refine y_lsub (v := (-1)) rfl (by decide) ?_
      refine x_inst (N := m_X12_in) (As := [.long (a1.toInt64), .long 0, .long (-1)]) (st := []) (d' := 98) (mc := 0) (ms := 0) (host := "") rfl t_X12_in ⟨Or.inl q_12_188, s_X12_in⟩ rfl (by decide) rfl rfl ⟨by decide, by decide⟩ (c_X12_in (jt_l _) (by decide) (by decide) ?_)
      show jX m_X12_isHolding 99 0 0 16 [(0, .ref 125), (1, .int a1)] [.int (jp (0 ≤ a1.toInt ∧ a1.toInt ≤ (-1)))] _ 0 0 _
      refine x_zret rfl rfl (by first | decide | exact jp_01 _) ?_
      show jX m_X12_hold 100 0 0 31 [(0, .ref 125), (1, .int a1), (2, .int a2), (3, .int a3), (4, .int a4)] [.int (jp (0 ≤ a1.toInt ∧ a1.toInt ≤ (-1)))] _ 0 0 _
      refine x_ifeq (tgt := 47) rfl rfl (jpe ⟨fun c3 => ?_, fun c3 => ?_⟩)
      ·
        refine x_aloadn (x := 125) rfl rfl ?_
        refine x_bipush (v := (-2)) rfl kb_m2 ?_
        refine x_inv (N := m_X12_told) (As := [.int (-2)]) (b := 125) (st := []) (d' := 99) (mc := 0) (ms := 0) (host := "") 12 rfl t_X12_told ⟨Or.inl q_12_197, i_X12_told.1, i_X12_told.2⟩ ⟨by decide, rfl⟩ (congrArg Prod.fst (F.1 125 (12, 92) rfl rfl)) rfl (by decide) rfl rfl ⟨by decide, by decide⟩ (jC.of rfl k_X12_told rfl ?_)
        show jX m_X12_told 99 0 0 0 [(0, .ref 125), (1, .int (-2))] [] _ 0 0 _
        refine x_aloadn (x := 125) rfl rfl ?_
        refine x_iloadn (x := (-2)) rfl rfl ?_
        refine x_ifge (tgt := 9) rfl rfl (br_f (by decide) ?_)
        refine x_iloadn (x := (-2)) rfl rfl ?_
        refine x_goto (tgt := 10) rfl rfl ?_
        refine x_putI 12 1 rfl f_12_183 rfl (jfin_no TX12 RX12 92 rfl rfl) (congrArg Prod.fst (F.1 125 (12, 92) rfl rfl)) rfl ?_
        refine x_iloadn (x := (-2)) rfl rfl ?_
        refine x_iret rfl rfl ?_
        show jX m_X12_hold 100 0 0 53 [(0, .ref 125), (1, .int a1), (2, .int a2), (3, .int a3), (4, .int a4)] [.int (-2)] _ 0 0 _
        refine x_iret rfl rfl ?_
        exact jqe (show sp_hold a1 a2 a3 a4 = (-2) by unfold sp_hold; (repeat' split) <;> first | rfl | (exfalso; omega)) (hQ _ (by repeat (first | exact O | refine jOl_si rfl ?_ | refine jOl_sl rfl ?_ | refine jOl_ci rfl ?_ | refine jOl_cl rfl ?_ | refine jOl_sr rfl ?_)))
      ·
        refine x_iloadn (x := a2) rfl rfl ?_
        refine x_iconst (v := (-1)) rfl ki_m1 ?_
        refine x_iceq (tgt := 54) rfl rfl (ti_eq (show (a2 : Int32).toInt = a2.toInt from rfl) (show ((-1) : Int32).toInt = (-1) by decide) ⟨fun c4 => ?_, fun c4 => ?_⟩)
        ·
          refine x_aloadn (x := 125) rfl rfl ?_
          refine x_getR (b := 126) 12 2 rfl f_12_8 rfl (congrArg Prod.fst (F.1 125 (12, 92) rfl rfl)) (F.2.1 16002 126 rfl rfl) ?_
          refine x_bipush (v := 10) rfl kb_10 ?_
          refine y_iald (v := 0) (N := 50660) 10 rfl (F.1 126 (100, 50660) rfl rfl) (jinb_of (by decide)) (by decide) (F.2.2.2.1 126 rfl rfl 10).1 ?_
          refine x_bipush (v := 100) rfl kb_100 ?_
          refine x_icne (tgt := 73) rfl rfl (bn_t (by decide) ?_)
          refine x_aloadn (x := 125) rfl rfl ?_
          refine x_ldcw (v := 47900) rfl z_12_808 ?_
          refine x_iconst (v := 4) rfl ki_4 ?_
          refine x_aloadn (x := 125) rfl rfl ?_
          refine x_getR (b := 126) 12 2 rfl f_12_8 rfl (congrArg Prod.fst (F.1 125 (12, 92) rfl rfl)) (F.2.1 16002 126 rfl rfl) ?_
          refine x_bipush (v := 10) rfl kb_10 ?_
          refine y_iald (v := 0) (N := 50660) 10 rfl (F.1 126 (100, 50660) rfl rfl) (jinb_of (by decide)) (by decide) (F.2.2.2.1 126 rfl rfl 10).1 ?_
          refine y_imul (v := 0) rfl (by decide) ?_
          refine y_iadd (v := 47900) rfl (by decide) ?_
          refine x_iloadn (x := a1) rfl rfl ?_
          refine x_iloadn (x := a2) rfl rfl ?_
          refine x_iloadn (x := a3) rfl rfl ?_
          refine x_iload (x := a4) rfl rfl ?_
          refine x_inv (N := m_X12_addFour) (As := [.int 47900, .int a1, .int a2, .int a3, .int a4]) (b := 125) (st := []) (d' := 99) (mc := 0) (ms := 0) (host := "") 12 rfl t_X12_addFour ⟨Or.inl q_12_814, i_X12_addFour.1, i_X12_addFour.2⟩ ⟨by decide, rfl⟩ (congrArg Prod.fst (F.1 125 (12, 92) rfl rfl)) rfl (by decide) rfl rfl ⟨by decide, by decide⟩ (jC.of rfl k_X12_addFour rfl ?_)
          show jX m_X12_addFour 99 0 0 0 [(0, .ref 125), (1, .int 47900), (2, .int a1), (3, .int a2), (4, .int a3), (5, .int a4)] [] _ 0 0 _
          refine x_aloadn (x := 125) rfl rfl ?_
          refine x_getR (b := 126) 12 2 rfl f_12_8 rfl (congrArg Prod.fst (F.1 125 (12, 92) rfl rfl)) (F.2.1 16002 126 rfl rfl) ?_
          refine x_iloadn (x := 47900) rfl rfl ?_
          refine x_iloadn (x := a1) rfl rfl ?_
          refine y_iast (N := 50660) 47900 rfl (F.1 126 (100, 50660) rfl rfl) rfl (jinb_of (by decide)) (by decide) ?_
          refine x_aloadn (x := 125) rfl rfl ?_
          refine x_getR (b := 126) 12 2 rfl f_12_8 rfl (congrArg Prod.fst (F.1 125 (12, 92) rfl rfl)) (F.2.1 16002 126 rfl rfl) ?_
          refine x_iloadn (x := 47900) rfl rfl ?_
          refine x_iconst (v := 1) rfl ki_1 ?_
          refine y_iadd (v := 47901) rfl (by decide) ?_
          refine x_iloadn (x := a2) rfl rfl ?_
          refine y_iast (N := 50660) 47901 rfl (F.1 126 (100, 50660) rfl rfl) rfl (jinb_of (by decide)) (by decide) ?_
          refine x_aloadn (x := 125) rfl rfl ?_
          refine x_getR (b := 126) 12 2 rfl f_12_8 rfl (congrArg Prod.fst (F.1 125 (12, 92) rfl rfl)) (F.2.1 16002 126 rfl rfl) ?_
          refine x_iloadn (x := 47900) rfl rfl ?_
          refine x_iconst (v := 2) rfl ki_2 ?_
          refine y_iadd (v := 47902) rfl (by decide) ?_
          refine x_iload (x := a3) rfl rfl ?_
          refine y_iast (N := 50660) 47902 rfl (F.1 126 (100, 50660) rfl rfl) rfl (jinb_of (by decide)) (by decide) ?_
          refine x_aloadn (x := 125) rfl rfl ?_
          refine x_getR (b := 126) 12 2 rfl f_12_8 rfl (congrArg Prod.fst (F.1 125 (12, 92) rfl rfl)) (F.2.1 16002 126 rfl rfl) ?_
          refine x_iloadn (x := 47900) rfl rfl ?_
          refine x_iconst (v := 3) rfl ki_3 ?_
          refine y_iadd (v := 47903) rfl (by decide) ?_
          refine x_iload (x := a4) rfl rfl ?_
          refine y_iast (N := 50660) 47903 rfl (F.1 126 (100, 50660) rfl rfl) rfl (jinb_of (by decide)) (by decide) ?_
          refine x_vret rfl rfl ?_
          show jX m_X12_hold 100 0 0 95 [(0, .ref 125), (1, .int a1), (2, .int a2), (3, .int a3), (4, .int a4)] [] _ 0 0 _
          refine x_aloadn (x := 125) rfl rfl ?_
          refine x_getR (b := 126) 12 2 rfl f_12_8 rfl (congrArg Prod.fst (F.1 125 (12, 92) rfl rfl)) (F.2.1 16002 126 rfl rfl) ?_
          refine x_bipush (v := 10) rfl kb_10 ?_
          refine x_dup2 rfl rfl rfl ?_
          refine y_iald (v := 0) (N := 50660) 10 rfl (F.1 126 (100, 50660) rfl rfl) (jinb_of (by decide)) (by decide) (F.2.2.2.1 126 rfl rfl 10).1 ?_
          refine x_iconst (v := 1) rfl ki_1 ?_
          refine y_iadd (v := 1) rfl (by decide) ?_
          refine y_iast (N := 50660) 10 rfl (F.1 126 (100, 50660) rfl rfl) rfl (jinb_of (by decide)) (by decide) ?_
          refine x_aloadn (x := 125) rfl rfl ?_
          refine x_aloadn (x := 125) rfl rfl ?_
          refine x_getR (b := 126) 12 2 rfl f_12_8 rfl (congrArg Prod.fst (F.1 125 (12, 92) rfl rfl)) (F.2.1 16002 126 rfl rfl) ?_
          refine x_bipush (v := 10) rfl kb_10 ?_
          refine y_iald (v := 1) (N := 50660) 10 rfl (F.1 126 (100, 50660) rfl rfl) (jinb_of (by decide)) (by decide) rfl ?_
          refine x_inv (N := m_X12_told) (As := [.int 1]) (b := 125) (st := []) (d' := 99) (mc := 0) (ms := 0) (host := "") 12 rfl t_X12_told ⟨Or.inl q_12_197, i_X12_told.1, i_X12_told.2⟩ ⟨by decide, rfl⟩ (congrArg Prod.fst (F.1 125 (12, 92) rfl rfl)) rfl (by decide) rfl rfl ⟨by decide, by decide⟩ (jC.of rfl k_X12_told rfl ?_)
          show jX m_X12_told 99 0 0 0 [(0, .ref 125), (1, .int 1)] [] _ 0 0 _
          refine x_aloadn (x := 125) rfl rfl ?_
          refine x_iloadn (x := 1) rfl rfl ?_
          refine x_ifge (tgt := 9) rfl rfl (br_t (by decide) ?_)
          refine x_iconst (v := 0) rfl ki_0 ?_
          refine x_putI 12 1 rfl f_12_183 rfl (jfin_no TX12 RX12 92 rfl rfl) (congrArg Prod.fst (F.1 125 (12, 92) rfl rfl)) rfl ?_
          refine x_iloadn (x := 1) rfl rfl ?_
          refine x_iret rfl rfl ?_
          show jX m_X12_hold 100 0 0 117 [(0, .ref 125), (1, .int a1), (2, .int a2), (3, .int a3), (4, .int a4)] [.int 1] _ 0 0 _
          refine x_iret rfl rfl ?_
          exact jqe (show sp_hold a1 a2 a3 a4 = 1 by unfold sp_hold; (repeat' split) <;> first | rfl | (exfalso; omega)) (hQ _ (by repeat (first | exact O | refine jOl_si rfl ?_ | refine jOl_sl rfl ?_ | refine jOl_ci rfl ?_ | refine jOl_cl rfl ?_ | refine jOl_sr rfl ?_)))
        ·
          refine x_aloadn (x := 125) rfl rfl ?_
          refine x_iloadn (x := a2) rfl rfl ?_
          refine x_inv (N := m_X12_isMention) (As := [.int a2]) (b := 125) (st := []) (d' := 99) (mc := 0) (ms := 0) (host := "") 12 rfl t_X12_isMention ⟨Or.inl q_12_322, i_X12_isMention.1, i_X12_isMention.2⟩ ⟨by decide, rfl⟩ (congrArg Prod.fst (F.1 125 (12, 92) rfl rfl)) rfl (by decide) rfl rfl ⟨by decide, by decide⟩ (jC.of rfl k_X12_isMention rfl ?_)
          show jX m_X12_isMention 99 0 0 0 [(0, .ref 125), (1, .int a2)] [] _ 0 0 _
          refine x_iloadn (x := a2) rfl rfl ?_
          refine x_iflt (tgt := 34) rfl rfl (ti_lt (show (a2 : Int32).toInt = a2.toInt from rfl) (show (0 : Int32).toInt = 0 by decide) ⟨fun c5 => ?_, fun c5 => ?_⟩)
          ·
            refine x_iconst (v := 0) rfl ki_0 ?_
            refine x_zret rfl rfl (by first | decide | exact jp_01 _) ?_
            show jX m_X12_hold 100 0 0 44 [(0, .ref 125), (1, .int a1), (2, .int a2), (3, .int a3), (4, .int a4)] [.int 0] _ 0 0 _
            refine x_ifne (tgt := 54) rfl rfl (bn_f (by decide) ?_)
            refine x_aloadn (x := 125) rfl rfl ?_
            refine x_bipush (v := (-2)) rfl kb_m2 ?_
            refine x_inv (N := m_X12_told) (As := [.int (-2)]) (b := 125) (st := []) (d' := 99) (mc := 0) (ms := 0) (host := "") 12 rfl t_X12_told ⟨Or.inl q_12_197, i_X12_told.1, i_X12_told.2⟩ ⟨by decide, rfl⟩ (congrArg Prod.fst (F.1 125 (12, 92) rfl rfl)) rfl (by decide) rfl rfl ⟨by decide, by decide⟩ (jC.of rfl k_X12_told rfl ?_)
            show jX m_X12_told 99 0 0 0 [(0, .ref 125), (1, .int (-2))] [] _ 0 0 _
            refine x_aloadn (x := 125) rfl rfl ?_
            refine x_iloadn (x := (-2)) rfl rfl ?_
            refine x_ifge (tgt := 9) rfl rfl (br_f (by decide) ?_)
            refine x_iloadn (x := (-2)) rfl rfl ?_
            refine x_goto (tgt := 10) rfl rfl ?_
            refine x_putI 12 1 rfl f_12_183 rfl (jfin_no TX12 RX12 92 rfl rfl) (congrArg Prod.fst (F.1 125 (12, 92) rfl rfl)) rfl ?_
            refine x_iloadn (x := (-2)) rfl rfl ?_
            refine x_iret rfl rfl ?_
            show jX m_X12_hold 100 0 0 53 [(0, .ref 125), (1, .int a1), (2, .int a2), (3, .int a3), (4, .int a4)] [.int (-2)] _ 0 0 _
            refine x_iret rfl rfl ?_
            exact jqe (show sp_hold a1 a2 a3 a4 = (-2) by unfold sp_hold; (repeat' split) <;> first | rfl | (exfalso; omega)) (hQ _ (by repeat (first | exact O | refine jOl_si rfl ?_ | refine jOl_sl rfl ?_ | refine jOl_ci rfl ?_ | refine jOl_cl rfl ?_ | refine jOl_sr rfl ?_)))
          ·
            refine x_aloadn (x := 125) rfl rfl ?_
            refine x_iloadn (x := a2) rfl rfl ?_
            refine x_iconst (v := 3) rfl ki_3 ?_
            refine x_idiv rfl (by decide) ?_
            refine x_inv (N := m_X12_isLine) (As := [.int (a2 / 3)]) (b := 125) (st := []) (d' := 98) (mc := 0) (ms := 0) (host := "") 12 rfl t_X12_isLine ⟨Or.inl q_12_293, i_X12_isLine.1, i_X12_isLine.2⟩ ⟨by decide, rfl⟩ (congrArg Prod.fst (F.1 125 (12, 92) rfl rfl)) rfl (by decide) rfl rfl ⟨by decide, by decide⟩ (jC.of rfl k_X12_isLine rfl ?_)
            show jX m_X12_isLine 98 0 0 0 [(0, .ref 125), (1, .int (a2 / 3))] [] _ 0 0 _
            refine x_iloadn (x := a2 / 3) rfl rfl ?_
            refine x_i2l rfl ?_
            refine x_lconst (v := 0) rfl kl_0 ?_
            refine x_aloadn (x := 125) rfl rfl ?_
            refine x_getR (b := 126) 12 2 rfl f_12_8 rfl (congrArg Prod.fst (F.1 125 (12, 92) rfl rfl)) (F.2.1 16002 126 rfl rfl) ?_
            refine x_iconst (v := 0) rfl ki_0 ?_
            refine y_iald (v := 0) (N := 50660) 0 rfl (F.1 126 (100, 50660) rfl rfl) (jinb_of (by decide)) (by decide) (F.2.2.2.1 126 rfl rfl 0).1 ?_
            refine y_i2l (v := 0) rfl (by decide) ?_
            refine x_lconst (v := 1) rfl kl_1 ?_
            refine y_lsub (v := (-1)) rfl (by decide) ?_
            refine x_inst (N := m_X12_in) (As := [.long ((a2 / 3).toInt64), .long 0, .long (-1)]) (st := []) (d' := 97) (mc := 0) (ms := 0) (host := "") rfl t_X12_in ⟨Or.inl q_12_188, s_X12_in⟩ rfl (by decide) rfl rfl ⟨by decide, by decide⟩ (c_X12_in (jt_l _) (by decide) (by decide) ?_)
            show jX m_X12_isLine 98 0 0 15 [(0, .ref 125), (1, .int (a2 / 3))] [.int (jp (0 ≤ (a2 / 3).toInt ∧ (a2 / 3).toInt ≤ (-1)))] _ 0 0 _
            refine x_zret rfl rfl (by first | decide | exact jp_01 _) ?_
            show jX m_X12_isMention 99 0 0 11 [(0, .ref 125), (1, .int a2)] [.int (jp (0 ≤ (a2 / 3).toInt ∧ (a2 / 3).toInt ≤ (-1)))] _ 0 0 _
            refine x_ifeq (tgt := 34) rfl rfl (jpe ⟨fun c6 => ?_, fun c6 => ?_⟩)
            ·
              refine x_iconst (v := 0) rfl ki_0 ?_
              refine x_zret rfl rfl (by first | decide | exact jp_01 _) ?_
              show jX m_X12_hold 100 0 0 44 [(0, .ref 125), (1, .int a1), (2, .int a2), (3, .int a3), (4, .int a4)] [.int 0] _ 0 0 _
              refine x_ifne (tgt := 54) rfl rfl (bn_f (by decide) ?_)
              refine x_aloadn (x := 125) rfl rfl ?_
              refine x_bipush (v := (-2)) rfl kb_m2 ?_
              refine x_inv (N := m_X12_told) (As := [.int (-2)]) (b := 125) (st := []) (d' := 99) (mc := 0) (ms := 0) (host := "") 12 rfl t_X12_told ⟨Or.inl q_12_197, i_X12_told.1, i_X12_told.2⟩ ⟨by decide, rfl⟩ (congrArg Prod.fst (F.1 125 (12, 92) rfl rfl)) rfl (by decide) rfl rfl ⟨by decide, by decide⟩ (jC.of rfl k_X12_told rfl ?_)
              show jX m_X12_told 99 0 0 0 [(0, .ref 125), (1, .int (-2))] [] _ 0 0 _
              refine x_aloadn (x := 125) rfl rfl ?_
              refine x_iloadn (x := (-2)) rfl rfl ?_
              refine x_ifge (tgt := 9) rfl rfl (br_f (by decide) ?_)
              refine x_iloadn (x := (-2)) rfl rfl ?_
              refine x_goto (tgt := 10) rfl rfl ?_
              refine x_putI 12 1 rfl f_12_183 rfl (jfin_no TX12 RX12 92 rfl rfl) (congrArg Prod.fst (F.1 125 (12, 92) rfl rfl)) rfl ?_
              refine x_iloadn (x := (-2)) rfl rfl ?_
              refine x_iret rfl rfl ?_
              show jX m_X12_hold 100 0 0 53 [(0, .ref 125), (1, .int a1), (2, .int a2), (3, .int a3), (4, .int a4)] [.int (-2)] _ 0 0 _
              refine x_iret rfl rfl ?_
              exact jqe (show sp_hold a1 a2 a3 a4 = (-2) by unfold sp_hold; (repeat' split) <;> first | rfl | (exfalso; omega)) (hQ _ (by repeat (first | exact O | refine jOl_si rfl ?_ | refine jOl_sl rfl ?_ | refine jOl_ci rfl ?_ | refine jOl_cl rfl ?_ | refine jOl_sr rfl ?_)))
            ·
              refine x_iloadn (x := a2) rfl rfl ?_
              refine x_iconst (v := 3) rfl ki_3 ?_
              refine x_irem rfl (by decide) ?_
              refine x_aloadn (x := 125) rfl rfl ?_
              refine x_iloadn (x := a2) rfl rfl ?_
              refine x_iconst (v := 3) rfl ki_3 ?_
              refine x_idiv rfl (by decide) ?_
              refine x_inv (N := m_X12_bookOf) (As := [.int (a2 / 3)]) (b := 125) (st := [.int (a2 - a2 / 3 * 3)]) (d' := 98) (mc := 0) (ms := 0) (host := "") 12 rfl t_X12_bookOf ⟨Or.inl q_12_299, i_X12_bookOf.1, i_X12_bookOf.2⟩ ⟨by decide, rfl⟩ (congrArg Prod.fst (F.1 125 (12, 92) rfl rfl)) rfl (by decide) rfl rfl ⟨by decide, by decide⟩ (jC.of rfl k_X12_bookOf rfl ?_)
              show jX m_X12_bookOf 98 0 0 0 [(0, .ref 125), (1, .int (a2 / 3))] [] _ 0 0 _
              refine x_aloadn (x := 125) rfl rfl ?_
              refine x_getR (b := 126) 12 2 rfl f_12_8 rfl (congrArg Prod.fst (F.1 125 (12, 92) rfl rfl)) (F.2.1 16002 126 rfl rfl) ?_
              refine x_aloadn (x := 125) rfl rfl ?_
              refine x_iloadn (x := a2 / 3) rfl rfl ?_
              refine x_inv (N := m_X12_at) (As := [.int (a2 / 3)]) (b := 125) (st := [.ref 126]) (d' := 97) (mc := 0) (ms := 0) (host := "") 12 rfl t_X12_at ⟨Or.inl q_12_254, i_X12_at.1, i_X12_at.2⟩ ⟨by decide, rfl⟩ (congrArg Prod.fst (F.1 125 (12, 92) rfl rfl)) rfl (by decide) rfl rfl ⟨by decide, by decide⟩ (jC.of rfl k_X12_at rfl ?_)
              show jX m_X12_at 97 0 0 0 [(0, .ref 125), (1, .int (a2 / 3))] [] _ 0 0 _
              refine x_bipush (v := 20) rfl kb_20 ?_
              refine x_bipush (v := 90) rfl kb_90 ?_
              refine x_iloadn (x := a2 / 3) rfl rfl ?_
              refine x_imul rfl ?_
              refine x_iadd rfl ?_
              refine x_iret rfl rfl ?_
              show jX m_X12_bookOf 98 0 0 9 [(0, .ref 125), (1, .int (a2 / 3))] [.int (20 + (90 * (a2 / 3))), .ref 126] _ 0 0 _
              refine y_iald (v := 0) (N := 50660) (20 + (90 * (a2 / 3))).toNatClampNeg rfl (F.1 126 (100, 50660) rfl rfl) (vpi (by omega)) rfl (F.2.2.2.1 126 rfl rfl _).1 ?_
              refine x_iret rfl rfl ?_
              show jX m_X12_isMention 99 0 0 24 [(0, .ref 125), (1, .int a2)] [.int 0, .int (a2 - a2 / 3 * 3)] _ 0 0 _
              refine x_inst (N := m_X12_rolesOf) (As := [.int 0]) (st := [.int (a2 - a2 / 3 * 3)]) (d' := 98) (mc := 0) (ms := 0) (host := "") rfl t_X12_rolesOf ⟨Or.inl q_12_286, s_X12_rolesOf⟩ rfl (by decide) rfl rfl ⟨by decide, by decide⟩ (jC.of rfl k_X12_rolesOf rfl ?_)
              show jX m_X12_rolesOf 98 0 0 0 [(0, .int 0)] [] _ 0 0 _
              refine x_iloadn (x := 0) rfl rfl ?_
              refine x_ifne (tgt := 8) rfl rfl (bn_f (by decide) ?_)
              refine x_iconst (v := 3) rfl ki_3 ?_
              refine x_goto (tgt := 18) rfl rfl ?_
              refine x_iret rfl rfl ?_
              show jX m_X12_isMention 99 0 0 27 [(0, .ref 125), (1, .int a2)] [.int 3, .int (a2 - a2 / 3 * 3)] _ 0 0 _
              refine x_icge (tgt := 34) rfl rfl (ti_ge (show (a2 - a2 / 3 * 3 : Int32).toInt = (a2 - a2 / 3 * 3).toInt from rfl) (show (3 : Int32).toInt = 3 by decide) ⟨fun c7 => ?_, fun c7 => ?_⟩)
              ·
                refine x_iconst (v := 0) rfl ki_0 ?_
                refine x_zret rfl rfl (by first | decide | exact jp_01 _) ?_
                show jX m_X12_hold 100 0 0 44 [(0, .ref 125), (1, .int a1), (2, .int a2), (3, .int a3), (4, .int a4)] [.int 0] _ 0 0 _
                refine x_ifne (tgt := 54) rfl rfl (bn_f (by decide) ?_)
                refine x_aloadn (x := 125) rfl rfl ?_
                refine x_bipush (v := (-2)) rfl kb_m2 ?_
                refine x_inv (N := m_X12_told) (As := [.int (-2)]) (b := 125) (st := []) (d' := 99) (mc := 0) (ms := 0) (host := "") 12 rfl t_X12_told ⟨Or.inl q_12_197, i_X12_told.1, i_X12_told.2⟩ ⟨by decide, rfl⟩ (congrArg Prod.fst (F.1 125 (12, 92) rfl rfl)) rfl (by decide) rfl rfl ⟨by decide, by decide⟩ (jC.of rfl k_X12_told rfl ?_)
                show jX m_X12_told 99 0 0 0 [(0, .ref 125), (1, .int (-2))] [] _ 0 0 _
                refine x_aloadn (x := 125) rfl rfl ?_
                refine x_iloadn (x := (-2)) rfl rfl ?_
                refine x_ifge (tgt := 9) rfl rfl (br_f (by decide) ?_)
                refine x_iloadn (x := (-2)) rfl rfl ?_
                refine x_goto (tgt := 10) rfl rfl ?_
                refine x_putI 12 1 rfl f_12_183 rfl (jfin_no TX12 RX12 92 rfl rfl) (congrArg Prod.fst (F.1 125 (12, 92) rfl rfl)) rfl ?_
                refine x_iloadn (x := (-2)) rfl rfl ?_
                refine x_iret rfl rfl ?_
                show jX m_X12_hold 100 0 0 53 [(0, .ref 125), (1, .int a1), (2, .int a2), (3, .int a3), (4, .int a4)] [.int (-2)] _ 0 0 _
                refine x_iret rfl rfl ?_
                exact jqe (show sp_hold a1 a2 a3 a4 = (-2) by unfold sp_hold; (repeat' split) <;> first | rfl | (exfalso; omega)) (hQ _ (by repeat (first | exact O | refine jOl_si rfl ?_ | refine jOl_sl rfl ?_ | refine jOl_ci rfl ?_ | refine jOl_cl rfl ?_ | refine jOl_sr rfl ?_)))
              ·
                refine x_iconst (v := 1) rfl ki_1 ?_
                refine x_goto (tgt := 35) rfl rfl ?_
                refine x_zret rfl rfl (by first | decide | exact jp_01 _) ?_
                show jX m_X12_hold 100 0 0 44 [(0, .ref 125), (1, .int a1), (2, .int a2), (3, .int a3), (4, .int a4)] [.int 1] _ 0 0 _
                refine x_ifne (tgt := 54) rfl rfl (bn_t (by decide) ?_)
                refine x_aloadn (x := 125) rfl rfl ?_
                refine x_getR (b := 126) 12 2 rfl f_12_8 rfl (congrArg Prod.fst (F.1 125 (12, 92) rfl rfl)) (F.2.1 16002 126 rfl rfl) ?_
                refine x_bipush (v := 10) rfl kb_10 ?_
                refine y_iald (v := 0) (N := 50660) 10 rfl (F.1 126 (100, 50660) rfl rfl) (jinb_of (by decide)) (by decide) (F.2.2.2.1 126 rfl rfl 10).1 ?_
                refine x_bipush (v := 100) rfl kb_100 ?_
                refine x_icne (tgt := 73) rfl rfl (bn_t (by decide) ?_)
                refine x_aloadn (x := 125) rfl rfl ?_
                refine x_ldcw (v := 47900) rfl z_12_808 ?_
                refine x_iconst (v := 4) rfl ki_4 ?_
                refine x_aloadn (x := 125) rfl rfl ?_
                refine x_getR (b := 126) 12 2 rfl f_12_8 rfl (congrArg Prod.fst (F.1 125 (12, 92) rfl rfl)) (F.2.1 16002 126 rfl rfl) ?_
                refine x_bipush (v := 10) rfl kb_10 ?_
                refine y_iald (v := 0) (N := 50660) 10 rfl (F.1 126 (100, 50660) rfl rfl) (jinb_of (by decide)) (by decide) (F.2.2.2.1 126 rfl rfl 10).1 ?_
                refine y_imul (v := 0) rfl (by decide) ?_
                refine y_iadd (v := 47900) rfl (by decide) ?_
                refine x_iloadn (x := a1) rfl rfl ?_
                refine x_iloadn (x := a2) rfl rfl ?_
                refine x_iloadn (x := a3) rfl rfl ?_
                refine x_iload (x := a4) rfl rfl ?_
                refine x_inv (N := m_X12_addFour) (As := [.int 47900, .int a1, .int a2, .int a3, .int a4]) (b := 125) (st := []) (d' := 99) (mc := 0) (ms := 0) (host := "") 12 rfl t_X12_addFour ⟨Or.inl q_12_814, i_X12_addFour.1, i_X12_addFour.2⟩ ⟨by decide, rfl⟩ (congrArg Prod.fst (F.1 125 (12, 92) rfl rfl)) rfl (by decide) rfl rfl ⟨by decide, by decide⟩ (jC.of rfl k_X12_addFour rfl ?_)
                show jX m_X12_addFour 99 0 0 0 [(0, .ref 125), (1, .int 47900), (2, .int a1), (3, .int a2), (4, .int a3), (5, .int a4)] [] _ 0 0 _
                refine x_aloadn (x := 125) rfl rfl ?_
                refine x_getR (b := 126) 12 2 rfl f_12_8 rfl (congrArg Prod.fst (F.1 125 (12, 92) rfl rfl)) (F.2.1 16002 126 rfl rfl) ?_
                refine x_iloadn (x := 47900) rfl rfl ?_
                refine x_iloadn (x := a1) rfl rfl ?_
                refine y_iast (N := 50660) 47900 rfl (F.1 126 (100, 50660) rfl rfl) rfl (jinb_of (by decide)) (by decide) ?_
                refine x_aloadn (x := 125) rfl rfl ?_
                refine x_getR (b := 126) 12 2 rfl f_12_8 rfl (congrArg Prod.fst (F.1 125 (12, 92) rfl rfl)) (F.2.1 16002 126 rfl rfl) ?_
                refine x_iloadn (x := 47900) rfl rfl ?_
                refine x_iconst (v := 1) rfl ki_1 ?_
                refine y_iadd (v := 47901) rfl (by decide) ?_
                refine x_iloadn (x := a2) rfl rfl ?_
                refine y_iast (N := 50660) 47901 rfl (F.1 126 (100, 50660) rfl rfl) rfl (jinb_of (by decide)) (by decide) ?_
                refine x_aloadn (x := 125) rfl rfl ?_
                refine x_getR (b := 126) 12 2 rfl f_12_8 rfl (congrArg Prod.fst (F.1 125 (12, 92) rfl rfl)) (F.2.1 16002 126 rfl rfl) ?_
                refine x_iloadn (x := 47900) rfl rfl ?_
                refine x_iconst (v := 2) rfl ki_2 ?_
                refine y_iadd (v := 47902) rfl (by decide) ?_
                refine x_iload (x := a3) rfl rfl ?_
                refine y_iast (N := 50660) 47902 rfl (F.1 126 (100, 50660) rfl rfl) rfl (jinb_of (by decide)) (by decide) ?_
                refine x_aloadn (x := 125) rfl rfl ?_
                refine x_getR (b := 126) 12 2 rfl f_12_8 rfl (congrArg Prod.fst (F.1 125 (12, 92) rfl rfl)) (F.2.1 16002 126 rfl rfl) ?_
                refine x_iloadn (x := 47900) rfl rfl ?_
                refine x_iconst (v := 3) rfl ki_3 ?_
                refine y_iadd (v := 47903) rfl (by decide) ?_
                refine x_iload (x := a4) rfl rfl ?_
                refine y_iast (N := 50660) 47903 rfl (F.1 126 (100, 50660) rfl rfl) rfl (jinb_of (by decide)) (by decide) ?_
                refine x_vret rfl rfl ?_
                show jX m_X12_hold 100 0 0 95 [(0, .ref 125), (1, .int a1), (2, .int a2), (3, .int a3), (4, .int a4)] [] _ 0 0 _
                refine x_aloadn (x := 125) rfl rfl ?_
                refine x_getR (b := 126) 12 2 rfl f_12_8 rfl (congrArg Prod.fst (F.1 125 (12, 92) rfl rfl)) (F.2.1 16002 126 rfl rfl) ?_
                refine x_bipush (v := 10) rfl kb_10 ?_
                refine x_dup2 rfl rfl rfl ?_
                refine y_iald (v := 0) (N := 50660) 10 rfl (F.1 126 (100, 50660) rfl rfl) (jinb_of (by decide)) (by decide) (F.2.2.2.1 126 rfl rfl 10).1 ?_
                refine x_iconst (v := 1) rfl ki_1 ?_
                refine y_iadd (v := 1) rfl (by decide) ?_
                refine y_iast (N := 50660) 10 rfl (F.1 126 (100, 50660) rfl rfl) rfl (jinb_of (by decide)) (by decide) ?_
                refine x_aloadn (x := 125) rfl rfl ?_
                refine x_aloadn (x := 125) rfl rfl ?_
                refine x_getR (b := 126) 12 2 rfl f_12_8 rfl (congrArg Prod.fst (F.1 125 (12, 92) rfl rfl)) (F.2.1 16002 126 rfl rfl) ?_
                refine x_bipush (v := 10) rfl kb_10 ?_
                refine y_iald (v := 1) (N := 50660) 10 rfl (F.1 126 (100, 50660) rfl rfl) (jinb_of (by decide)) (by decide) rfl ?_
                refine x_inv (N := m_X12_told) (As := [.int 1]) (b := 125) (st := []) (d' := 99) (mc := 0) (ms := 0) (host := "") 12 rfl t_X12_told ⟨Or.inl q_12_197, i_X12_told.1, i_X12_told.2⟩ ⟨by decide, rfl⟩ (congrArg Prod.fst (F.1 125 (12, 92) rfl rfl)) rfl (by decide) rfl rfl ⟨by decide, by decide⟩ (jC.of rfl k_X12_told rfl ?_)
                show jX m_X12_told 99 0 0 0 [(0, .ref 125), (1, .int 1)] [] _ 0 0 _
                refine x_aloadn (x := 125) rfl rfl ?_
                refine x_iloadn (x := 1) rfl rfl ?_
                refine x_ifge (tgt := 9) rfl rfl (br_t (by decide) ?_)
                refine x_iconst (v := 0) rfl ki_0 ?_
                refine x_putI 12 1 rfl f_12_183 rfl (jfin_no TX12 RX12 92 rfl rfl) (congrArg Prod.fst (F.1 125 (12, 92) rfl rfl)) rfl ?_
                refine x_iloadn (x := 1) rfl rfl ?_
                refine x_iret rfl rfl ?_
                show jX m_X12_hold 100 0 0 117 [(0, .ref 125), (1, .int a1), (2, .int a2), (3, .int a3), (4, .int a4)] [.int 1] _ 0 0 _
                refine x_iret rfl rfl ?_
                exact jqe (show sp_hold a1 a2 a3 a4 = 1 by unfold sp_hold; (repeat' split) <;> first | rfl | (exfalso; omega)) (hQ _ (by repeat (first | exact O | refine jOl_si rfl ?_ | refine jOl_sl rfl ?_ | refine jOl_ci rfl ?_ | refine jOl_cl rfl ?_ | refine jOl_sr rfl ?_)))
    ·
      refine x_aloadn (x := 125) rfl rfl ?_
      refine x_iconst (v := (-1)) rfl ki_m1 ?_
      refine x_inv (N := m_X12_told) (As := [.int (-1)]) (b := 125) (st := []) (d' := 99) (mc := 0) (ms := 0) (host := "") 12 rfl t_X12_told ⟨Or.inl q_12_197, i_X12_told.1, i_X12_told.2⟩ ⟨by decide, rfl⟩ (congrArg Prod.fst (F.1 125 (12, 92) rfl rfl)) rfl (by decide) rfl rfl ⟨by decide, by decide⟩ (jC.of rfl k_X12_told rfl ?_)
      show jX m_X12_told 99 0 0 0 [(0, .ref 125), (1, .int (-1))] [] _ 0 0 _
      refine x_aloadn (x := 125) rfl rfl ?_
      refine x_iloadn (x := (-1)) rfl rfl ?_
      refine x_ifge (tgt := 9) rfl rfl (br_f (by decide) ?_)
      refine x_iloadn (x := (-1)) rfl rfl ?_
      refine x_goto (tgt := 10) rfl rfl ?_
      refine x_putI 12 1 rfl f_12_183 rfl (jfin_no TX12 RX12 92 rfl rfl) (congrArg Prod.fst (F.1 125 (12, 92) rfl rfl)) rfl ?_
      refine x_iloadn (x := (-1)) rfl rfl ?_
      refine x_iret rfl rfl ?_
      show jX m_X12_hold 100 0 0 25 [(0, .ref 125), (1, .int a1), (2, .int a2), (3, .int a3), (4, .int a4)] [.int (-1)] _ 0 0 _
      refine x_iret rfl rfl ?_
      exact jqe (show sp_hold a1 a2 a3 a4 = (-1) by unfold sp_hold; (repeat' split) <;> first | rfl | (exfalso; omega)) (hQ _ (by repeat (first | exact O | refine jOl_si rfl ?_ | refine jOl_sl rfl ?_ | refine jOl_ci rfl ?_ | refine jOl_cl rfl ?_ | refine jOl_sr rfl ?_)))
def sp_house (a1 a2 a3 a4 : Int32) : Int32 := (-1)
set_option maxRecDepth 100000 in
set_option maxHeartbeats 40000000 in
theorem px_house (a1 a2 a3 a4 : Int32) {xs : Nat → Int32} {h : jH} {Q : Option Value → jH → Prop} (F : jFb 31 h) (O : jOl 7 xs h) (hQ : ∀ h', jFb 125 h' → jOl 7 xs h' → Q (some (.int (sp_house a1 a2 a3 a4))) h') : jC m_X11_house 100 0 0 [.ref 31, .int a1, .int a2, .int a3, .int a4] h Q := by
  have FM := jFb_up 125 rfl F
  refine jC.of rfl k_X11_house rfl ?_
  show jX m_X11_house 100 0 0 0 [(0, .ref 31), (1, .int a1), (2, .int a2), (3, .int a3), (4, .int a4)] [] _ 0 0 _
  refine x_aloadn (x := 31) rfl rfl ?_
  refine x_iloadn (x := a1) rfl rfl ?_
  refine x_inv (N := m_X11_isHolding) (As := [.int a1]) (b := 31) (st := []) (d' := 99) (mc := 0) (ms := 0) (host := "") 11 rfl t_X11_isHolding ⟨Or.inl q_11_415, i_X11_isHolding.1, i_X11_isHolding.2⟩ ⟨by decide, rfl⟩ (congrArg Prod.fst (F.1 31 (11, 13) rfl rfl)) rfl (by decide) rfl rfl ⟨by decide, by decide⟩ (jC.of rfl k_X11_isHolding rfl ?_)
  show jX m_X11_isHolding 99 0 0 0 [(0, .ref 31), (1, .int a1)] [] _ 0 0 _
  refine x_iloadn (x := a1) rfl rfl ?_
  refine x_iflt (tgt := 28) rfl rfl (ti_lt (show (a1 : Int32).toInt = a1.toInt from rfl) (show (0 : Int32).toInt = 0 by decide) ⟨fun c1 => ?_, fun c1 => ?_⟩)
  ·
    refine x_iconst (v := 0) rfl ki_0 ?_
    refine x_zret rfl rfl (by first | decide | exact jp_01 _) ?_
    show jX m_X11_house 100 0 0 5 [(0, .ref 31), (1, .int a1), (2, .int a2), (3, .int a3), (4, .int a4)] [.int 0] _ 0 0 _
    refine x_ifeq (tgt := 33) rfl rfl (br_t (by decide) ?_)
    refine x_iconst (v := (-1)) rfl ki_m1 ?_
    refine x_iret rfl rfl ?_
    exact jqe (show sp_house a1 a2 a3 a4 = (-1) by unfold sp_house; (repeat' split) <;> first | rfl | (exfalso; omega)) (hQ _ (by repeat (first | exact FM | refine jFb_si rfl ?_ | refine jFb_sl rfl ?_ | refine jFb_ci rfl ?_ | refine jFb_cl rfl ?_ | refine jFb_sr rfl ?_)) (by repeat (first | exact O | refine jOl_si rfl ?_ | refine jOl_sl rfl ?_ | refine jOl_ci rfl ?_ | refine jOl_cl rfl ?_ | refine jOl_sr rfl ?_)))
  ·
    refine x_iloadn (x := a1) rfl rfl ?_
    refine x_aloadn (x := 31) rfl rfl ?_
    refine x_getR (b := 32) 11 0 rfl f_11_10 rfl (congrArg Prod.fst (F.1 31 (11, 13) rfl rfl)) (F.2.1 3968 32 rfl rfl) ?_
    refine x_getR (b := 49) 1 8 rfl f_11_408 rfl (congrArg Prod.fst (F.1 32 (1, 20) rfl rfl)) (F.2.1 4104 49 rfl rfl) ?_
    refine y_getI (v := 0) 8 3 rfl f_11_142 rfl (congrArg Prod.fst (F.1 49 (8, 4) rfl rfl)) (F.2.2.1 6275 0 rfl rfl) ?_
    refine x_icge (tgt := 28) rfl rfl (ti_ge (show (a1 : Int32).toInt = a1.toInt from rfl) (show (0 : Int32).toInt = 0 by decide) ⟨fun c2 => ?_, fun c2 => ?_⟩)
    ·
      refine x_iconst (v := 0) rfl ki_0 ?_
      refine x_zret rfl rfl (by first | decide | exact jp_01 _) ?_
      show jX m_X11_house 100 0 0 5 [(0, .ref 31), (1, .int a1), (2, .int a2), (3, .int a3), (4, .int a4)] [.int 0] _ 0 0 _
      refine x_ifeq (tgt := 33) rfl rfl (br_t (by decide) ?_)
      refine x_iconst (v := (-1)) rfl ki_m1 ?_
      refine x_iret rfl rfl ?_
      exact jqe (show sp_house a1 a2 a3 a4 = (-1) by unfold sp_house; (repeat' split) <;> first | rfl | (exfalso; omega)) (hQ _ (by repeat (first | exact FM | refine jFb_si rfl ?_ | refine jFb_sl rfl ?_ | refine jFb_ci rfl ?_ | refine jFb_cl rfl ?_ | refine jFb_sr rfl ?_)) (by repeat (first | exact O | refine jOl_si rfl ?_ | refine jOl_sl rfl ?_ | refine jOl_ci rfl ?_ | refine jOl_cl rfl ?_ | refine jOl_sr rfl ?_)))
    ·
      refine x_iloadn (x := a1) rfl rfl ?_
      refine x_bipush (v := 40) rfl kb_40 ?_
      refine x_icge (tgt := 28) rfl rfl (ti_ge (show (a1 : Int32).toInt = a1.toInt from rfl) (show (40 : Int32).toInt = 40 by decide) ⟨fun c3 => ?_, fun c3 => ?_⟩)
      ·
        refine x_iconst (v := 0) rfl ki_0 ?_
        refine x_zret rfl rfl (by first | decide | exact jp_01 _) ?_
        show jX m_X11_house 100 0 0 5 [(0, .ref 31), (1, .int a1), (2, .int a2), (3, .int a3), (4, .int a4)] [.int 0] _ 0 0 _
        refine x_ifeq (tgt := 33) rfl rfl (br_t (by decide) ?_)
        refine x_iconst (v := (-1)) rfl ki_m1 ?_
        refine x_iret rfl rfl ?_
        exact jqe (show sp_house a1 a2 a3 a4 = (-1) by unfold sp_house; (repeat' split) <;> first | rfl | (exfalso; omega)) (hQ _ (by repeat (first | exact FM | refine jFb_si rfl ?_ | refine jFb_sl rfl ?_ | refine jFb_ci rfl ?_ | refine jFb_cl rfl ?_ | refine jFb_sr rfl ?_)) (by repeat (first | exact O | refine jOl_si rfl ?_ | refine jOl_sl rfl ?_ | refine jOl_ci rfl ?_ | refine jOl_cl rfl ?_ | refine jOl_sr rfl ?_)))
      ·
        refine x_iconst (v := 1) rfl ki_1 ?_
        refine x_goto (tgt := 29) rfl rfl ?_
        refine x_zret rfl rfl (by first | decide | exact jp_01 _) ?_
        show jX m_X11_house 100 0 0 5 [(0, .ref 31), (1, .int a1), (2, .int a2), (3, .int a3), (4, .int a4)] [.int 1] _ 0 0 _
        refine x_ifeq (tgt := 33) rfl rfl (br_f (by decide) ?_)
        refine x_iloadn (x := a2) rfl rfl ?_
        refine x_inst (N := m_X11_isDay) (As := [.int a2]) (st := []) (d' := 99) (mc := 0) (ms := 0) (host := "") rfl t_X11_isDay ⟨Or.inl q_11_115, s_X11_isDay⟩ rfl (by decide) rfl rfl ⟨by decide, by decide⟩ (c_X11_isDay (x := a2) ?_)
        show jX m_X11_house 100 0 0 12 [(0, .ref 31), (1, .int a1), (2, .int a2), (3, .int a3), (4, .int a4)] [.int (jp (0 ≤ a2.toInt ∧ a2.toInt ≤ 146399))] _ 0 0 _
        refine x_ifeq (tgt := 33) rfl rfl (jpe ⟨fun c4 => ?_, fun c4 => ?_⟩)
        ·
          refine x_iconst (v := (-1)) rfl ki_m1 ?_
          refine x_iret rfl rfl ?_
          exact jqe (show sp_house a1 a2 a3 a4 = (-1) by unfold sp_house; (repeat' split) <;> first | rfl | (exfalso; omega)) (hQ _ (by repeat (first | exact FM | refine jFb_si rfl ?_ | refine jFb_sl rfl ?_ | refine jFb_ci rfl ?_ | refine jFb_cl rfl ?_ | refine jFb_sr rfl ?_)) (by repeat (first | exact O | refine jOl_si rfl ?_ | refine jOl_sl rfl ?_ | refine jOl_ci rfl ?_ | refine jOl_cl rfl ?_ | refine jOl_sr rfl ?_)))
        ·
          refine x_iloadn (x := a3) rfl rfl ?_
          refine x_inst (N := m_X11_isDay) (As := [.int a3]) (st := []) (d' := 99) (mc := 0) (ms := 0) (host := "") rfl t_X11_isDay ⟨Or.inl q_11_115, s_X11_isDay⟩ rfl (by decide) rfl rfl ⟨by decide, by decide⟩ (c_X11_isDay (x := a3) ?_)
          show jX m_X11_house 100 0 0 19 [(0, .ref 31), (1, .int a1), (2, .int a2), (3, .int a3), (4, .int a4)] [.int (jp (0 ≤ a3.toInt ∧ a3.toInt ≤ 146399))] _ 0 0 _
          refine x_ifeq (tgt := 33) rfl rfl (jpe ⟨fun c5 => ?_, fun c5 => ?_⟩)
          ·
            refine x_iconst (v := (-1)) rfl ki_m1 ?_
            refine x_iret rfl rfl ?_
            exact jqe (show sp_house a1 a2 a3 a4 = (-1) by unfold sp_house; (repeat' split) <;> first | rfl | (exfalso; omega)) (hQ _ (by repeat (first | exact FM | refine jFb_si rfl ?_ | refine jFb_sl rfl ?_ | refine jFb_ci rfl ?_ | refine jFb_cl rfl ?_ | refine jFb_sr rfl ?_)) (by repeat (first | exact O | refine jOl_si rfl ?_ | refine jOl_sl rfl ?_ | refine jOl_ci rfl ?_ | refine jOl_cl rfl ?_ | refine jOl_sr rfl ?_)))
          ·
            refine x_iload (x := a4) rfl rfl ?_
            refine x_iflt (tgt := 33) rfl rfl (ti_lt (show (a4 : Int32).toInt = a4.toInt from rfl) (show (0 : Int32).toInt = 0 by decide) ⟨fun c6 => ?_, fun c6 => ?_⟩)
            ·
              refine x_iconst (v := (-1)) rfl ki_m1 ?_
              refine x_iret rfl rfl ?_
              exact jqe (show sp_house a1 a2 a3 a4 = (-1) by unfold sp_house; (repeat' split) <;> first | rfl | (exfalso; omega)) (hQ _ (by repeat (first | exact FM | refine jFb_si rfl ?_ | refine jFb_sl rfl ?_ | refine jFb_ci rfl ?_ | refine jFb_cl rfl ?_ | refine jFb_sr rfl ?_)) (by repeat (first | exact O | refine jOl_si rfl ?_ | refine jOl_sl rfl ?_ | refine jOl_ci rfl ?_ | refine jOl_cl rfl ?_ | refine jOl_sr rfl ?_)))
            ·
              refine x_iload (x := a4) rfl rfl ?_
              refine x_iconst (v := 1) rfl ki_1 ?_
              refine x_icle (tgt := 35) rfl rfl (ti_le (show (a4 : Int32).toInt = a4.toInt from rfl) (show (1 : Int32).toInt = 1 by decide) ⟨fun c7 => ?_, fun c7 => ?_⟩)
              ·
                refine x_aloadn (x := 31) rfl rfl ?_
                refine x_getR (b := 78) 11 4 rfl f_11_41 rfl (congrArg Prod.fst (F.1 31 (11, 13) rfl rfl)) (F.2.1 3972 78 rfl rfl) ?_
                refine x_iloadn (x := a3) rfl rfl ?_
                refine x_inv (N := m_X7_asKnown) (As := [.int a3]) (b := 78) (st := []) (d' := 99) (mc := 0) (ms := 0) (host := "") 7 rfl t_X7_asKnown ⟨Or.inl q_11_240, i_X7_asKnown.1, i_X7_asKnown.2⟩ ⟨by decide, rfl⟩ (congrArg Prod.fst (F.1 78 (7, 16) rfl rfl)) rfl (by decide) rfl rfl ⟨by decide, by decide⟩ (jC.of rfl k_X7_asKnown rfl ?_)
                show jX m_X7_asKnown 99 0 0 0 [(0, .ref 78), (1, .int a3)] [] _ 0 0 _
                refine x_aloadn (x := 78) rfl rfl ?_
                refine x_getR (b := 86) 7 15 rfl f_7_52 rfl (congrArg Prod.fst (F.1 78 (7, 16) rfl rfl)) (F.2.1 9999 86 rfl rfl) ?_
                refine x_iloadn (x := a3) rfl rfl ?_
                refine x_iconst (v := 0) rfl ki_0 ?_
                refine x_aloadn (x := 78) rfl rfl ?_
                refine x_getR (b := 32) 7 0 rfl f_7_55 rfl (congrArg Prod.fst (F.1 78 (7, 16) rfl rfl)) (F.2.1 9984 32 rfl rfl) ?_
                refine y_getI (v := 1) 1 19 rfl f_7_140 rfl (congrArg Prod.fst (F.1 32 (1, 20) rfl rfl)) (F.2.2.1 4115 1 rfl rfl) ?_
                refine x_inst (N := m_X11_isFresh) (As := [.ref 86, .int a3, .int 0, .int 1]) (st := []) (d' := 98) (mc := 0) (ms := 0) (host := "ParishChest") rfl t_X11_isFresh ⟨Or.inr q_7_143, s_X11_isFresh⟩ rfl (by decide) rfl rfl ⟨by decide, by decide⟩ (jC.of rfl k_X11_isFresh rfl ?_)
                show jX m_X11_isFresh 98 0 0 0 [(0, .ref 86), (1, .int a3), (2, .int 0), (3, .int 1)] [] _ 0 0 _
                refine x_aloadn (x := 86) rfl rfl ?_
                refine y_alen (N := 3) (v := 3) rfl (F.1 86 (100, 3) rfl rfl) (by decide) (by decide) ?_
                refine x_iconst (v := 3) rfl ki_3 ?_
                refine x_icge (tgt := 8) rfl rfl (br_t (by decide) ?_)
                refine x_aloadn (x := 86) rfl rfl ?_
                refine x_iconst (v := 0) rfl ki_0 ?_
                refine y_iald (v := 0) (N := 3) 0 rfl (F.1 86 (100, 3) rfl rfl) (jinb_of (by decide)) (by decide) (F.2.2.2.1 86 rfl rfl 0).1 ?_
                refine x_iloadn (x := a3) rfl rfl ?_
                refine x_icne (tgt := 33) rfl rfl (ti_ne (show (0 : Int32).toInt = 0 by decide) (show (a3 : Int32).toInt = a3.toInt from rfl) ⟨fun c8 => ?_, fun c8 => ?_⟩)
                ·
                  refine x_iconst (v := 0) rfl ki_0 ?_
                  refine x_istore (ls' := [(4, .int 0), (0, .ref 86), (1, .int a3), (2, .int 0), (3, .int 1)]) rfl rfl rfl ?_
                  refine x_aloadn (x := 86) rfl rfl ?_
                  refine x_iconst (v := 0) rfl ki_0 ?_
                  refine x_iloadn (x := a3) rfl rfl ?_
                  refine y_iast (N := 3) 0 rfl (F.1 86 (100, 3) rfl rfl) rfl (jinb_of (by decide)) (by decide) ?_
                  refine x_aloadn (x := 86) rfl rfl ?_
                  refine x_iconst (v := 1) rfl ki_1 ?_
                  refine x_iloadn (x := 0) rfl rfl ?_
                  refine y_iast (N := 3) 1 rfl (F.1 86 (100, 3) rfl rfl) rfl (jinb_of (by decide)) (by decide) ?_
                  refine x_aloadn (x := 86) rfl rfl ?_
                  refine x_iconst (v := 2) rfl ki_2 ?_
                  refine x_iloadn (x := 1) rfl rfl ?_
                  refine y_iast (N := 3) 2 rfl (F.1 86 (100, 3) rfl rfl) rfl (jinb_of (by decide)) (by decide) ?_
                  refine x_iload (x := 0) rfl rfl ?_
                  refine x_zret rfl rfl (by first | decide | exact jp_01 _) ?_
                  show jX m_X7_asKnown 99 0 0 16 [(0, .ref 78), (1, .int a3)] [.int 0] _ 0 0 _
                  refine x_ifeq (tgt := 20) rfl rfl (br_t (by decide) ?_)
                  refine x_iconst (v := 0) rfl ki_0 ?_
                  refine x_istoren (ls' := [(2, .int 0), (0, .ref 78), (1, .int a3)]) rfl rfl rfl ?_
                  refine x_iloadn (x := 0) rfl rfl ?_
                  refine x_aloadn (x := 78) rfl rfl ?_
                  refine x_getR (b := 32) 7 0 rfl f_7_55 rfl (congrArg Prod.fst (F.1 78 (7, 16) rfl rfl)) (F.2.1 9984 32 rfl rfl) ?_
                  refine x_getR (b := 33) 1 0 rfl f_7_63 rfl (congrArg Prod.fst (F.1 32 (1, 20) rfl rfl)) (F.2.1 4096 33 rfl rfl) ?_
                  refine y_getI (v := 0) 8 3 rfl f_7_85 rfl (congrArg Prod.fst (F.1 33 (8, 4) rfl rfl)) (F.2.2.1 4227 0 rfl rfl) ?_
                  refine x_iconst (v := 3) rfl ki_3 ?_
                  refine y_imul (v := 0) rfl (by decide) ?_
                  refine x_icge (tgt := 96) rfl rfl (br_t (by decide) ?_)
                  refine x_aloadn (x := 78) rfl rfl ?_
                  refine x_iconst (v := 0) rfl ki_0 ?_
                  refine x_putI 7 13 rfl f_7_46 rfl (jfin_no TX7 RX7 16 rfl rfl) (congrArg Prod.fst (F.1 78 (7, 16) rfl rfl)) rfl ?_
                  refine x_iconst (v := 0) rfl ki_0 ?_
                  refine x_istoren (ls' := [(2, .int 0), (0, .ref 78), (1, .int a3)]) rfl rfl rfl ?_
                  refine x_iloadn (x := 0) rfl rfl ?_
                  refine x_aloadn (x := 78) rfl rfl ?_
                  refine x_getR (b := 32) 7 0 rfl f_7_55 rfl (congrArg Prod.fst (F.1 78 (7, 16) rfl rfl)) (F.2.1 9984 32 rfl rfl) ?_
                  refine x_getR (b := 39) 1 3 rfl f_7_150 rfl (congrArg Prod.fst (F.1 32 (1, 20) rfl rfl)) (F.2.1 4099 39 rfl rfl) ?_
                  refine y_getI (v := 0) 8 3 rfl f_7_85 rfl (congrArg Prod.fst (F.1 39 (8, 4) rfl rfl)) (F.2.2.1 4995 0 rfl rfl) ?_
                  refine x_icge (tgt := 175) rfl rfl (br_t (by decide) ?_)
                  refine x_vret rfl rfl ?_
                  show jX m_X11_house 100 0 0 43 [(0, .ref 31), (1, .int a1), (2, .int a2), (3, .int a3), (4, .int a4)] [] _ 0 0 _
                  refine x_aloadn (x := 31) rfl rfl ?_
                  refine x_getR (b := 98) 11 7 rfl f_11_66 rfl (congrArg Prod.fst (F.1 31 (11, 13) rfl rfl)) (F.2.1 3975 98 rfl rfl) ?_
                  refine x_iloadn (x := a2) rfl rfl ?_
                  refine x_iloadn (x := a3) rfl rfl ?_
                  refine x_inv (N := m_X0_readHouses) (As := [.int a2, .int a3]) (b := 98) (st := []) (d' := 99) (mc := 0) (ms := 0) (host := "") 0 rfl t_X0_readHouses ⟨Or.inl q_11_424, i_X0_readHouses.1, i_X0_readHouses.2⟩ ⟨by decide, rfl⟩ (congrArg Prod.fst (F.1 98 (0, 16) rfl rfl)) rfl (by decide) rfl rfl ⟨by decide, by decide⟩ (jC.of rfl k_X0_readHouses rfl ?_)
                  show jX m_X0_readHouses 99 0 0 0 [(0, .ref 98), (1, .int a2), (2, .int a3)] [] _ 0 0 _
                  refine x_aloadn (x := 98) rfl rfl ?_
                  refine x_iloadn (x := a2) rfl rfl ?_
                  refine x_putI 0 10 rfl f_0_37 rfl (jfin_no TX0 RX0 16 rfl rfl) (congrArg Prod.fst (F.1 98 (0, 16) rfl rfl)) rfl ?_
                  refine x_aloadn (x := 98) rfl rfl ?_
                  refine x_iloadn (x := a3) rfl rfl ?_
                  refine x_putI 0 11 rfl f_0_41 rfl (jfin_no TX0 RX0 16 rfl rfl) (congrArg Prod.fst (F.1 98 (0, 16) rfl rfl)) rfl ?_
                  refine x_aloadn (x := 98) rfl rfl ?_
                  refine x_getR (b := 105) 0 8 rfl f_0_30 rfl (congrArg Prod.fst (F.1 98 (0, 16) rfl rfl)) (F.2.1 12552 105 rfl rfl) ?_
                  refine x_aloadn (x := 98) rfl rfl ?_
                  refine y_getI (v := a2) 0 10 rfl f_0_37 rfl (congrArg Prod.fst (F.1 98 (0, 16) rfl rfl)) rfl ?_
                  refine x_aloadn (x := 98) rfl rfl ?_
                  refine y_getI (v := a3) 0 11 rfl f_0_41 rfl (congrArg Prod.fst (F.1 98 (0, 16) rfl rfl)) rfl ?_
                  refine x_aloadn (x := 98) rfl rfl ?_
                  refine x_getR (b := 32) 0 0 rfl f_0_57 rfl (congrArg Prod.fst (F.1 98 (0, 16) rfl rfl)) (F.2.1 12544 32 rfl rfl) ?_
                  refine y_getI (v := 1) 1 19 rfl f_0_81 rfl (congrArg Prod.fst (F.1 32 (1, 20) rfl rfl)) (F.2.2.1 4115 1 rfl rfl) ?_
                  refine x_inst (N := m_X11_isFresh) (As := [.ref 105, .int a2, .int a3, .int 1]) (st := []) (d' := 98) (mc := 0) (ms := 0) (host := "ParishChest") rfl t_X11_isFresh ⟨Or.inr q_0_84, s_X11_isFresh⟩ rfl (by decide) rfl rfl ⟨by decide, by decide⟩ (jC.of rfl k_X11_isFresh rfl ?_)
                  show jX m_X11_isFresh 98 0 0 0 [(0, .ref 105), (1, .int a2), (2, .int a3), (3, .int 1)] [] _ 0 0 _
                  refine x_aloadn (x := 105) rfl rfl ?_
                  refine y_alen (N := 3) (v := 3) rfl (F.1 105 (100, 3) rfl rfl) (by decide) (by decide) ?_
                  refine x_iconst (v := 3) rfl ki_3 ?_
                  refine x_icge (tgt := 8) rfl rfl (br_t (by decide) ?_)
                  refine x_aloadn (x := 105) rfl rfl ?_
                  refine x_iconst (v := 0) rfl ki_0 ?_
                  refine y_iald (v := 0) (N := 3) 0 rfl (F.1 105 (100, 3) rfl rfl) (jinb_of (by decide)) (by decide) (F.2.2.2.1 105 rfl rfl 0).1 ?_
                  refine x_iloadn (x := a2) rfl rfl ?_
                  refine x_icne (tgt := 33) rfl rfl (ti_ne (show (0 : Int32).toInt = 0 by decide) (show (a2 : Int32).toInt = a2.toInt from rfl) ⟨fun c9 => ?_, fun c9 => ?_⟩)
                  ·
                    refine x_iconst (v := 0) rfl ki_0 ?_
                    refine x_istore (ls' := [(4, .int 0), (0, .ref 105), (1, .int a2), (2, .int a3), (3, .int 1)]) rfl rfl rfl ?_
                    refine x_aloadn (x := 105) rfl rfl ?_
                    refine x_iconst (v := 0) rfl ki_0 ?_
                    refine x_iloadn (x := a2) rfl rfl ?_
                    refine y_iast (N := 3) 0 rfl (F.1 105 (100, 3) rfl rfl) rfl (jinb_of (by decide)) (by decide) ?_
                    refine x_aloadn (x := 105) rfl rfl ?_
                    refine x_iconst (v := 1) rfl ki_1 ?_
                    refine x_iloadn (x := a3) rfl rfl ?_
                    refine y_iast (N := 3) 1 rfl (F.1 105 (100, 3) rfl rfl) rfl (jinb_of (by decide)) (by decide) ?_
                    refine x_aloadn (x := 105) rfl rfl ?_
                    refine x_iconst (v := 2) rfl ki_2 ?_
                    refine x_iloadn (x := 1) rfl rfl ?_
                    refine y_iast (N := 3) 2 rfl (F.1 105 (100, 3) rfl rfl) rfl (jinb_of (by decide)) (by decide) ?_
                    refine x_iload (x := 0) rfl rfl ?_
                    refine x_zret rfl rfl (by first | decide | exact jp_01 _) ?_
                    show jX m_X0_readHouses 99 0 0 32 [(0, .ref 98), (1, .int a2), (2, .int a3)] [.int 0] _ 0 0 _
                    refine x_ifeq (tgt := 36) rfl rfl (br_t (by decide) ?_)
                    refine x_bipush (v := 40) rfl kb_40 ?_
                    refine x_aloadn (x := 98) rfl rfl ?_
                    refine x_getR (b := 32) 0 0 rfl f_0_57 rfl (congrArg Prod.fst (F.1 98 (0, 16) rfl rfl)) (F.2.1 12544 32 rfl rfl) ?_
                    refine x_getR (b := 49) 1 8 rfl f_0_120 rfl (congrArg Prod.fst (F.1 32 (1, 20) rfl rfl)) (F.2.1 4104 49 rfl rfl) ?_
                    refine y_getI (v := 0) 8 3 rfl f_0_124 rfl (congrArg Prod.fst (F.1 49 (8, 4) rfl rfl)) (F.2.2.1 6275 0 rfl rfl) ?_
                    refine x_inst (N := m_J9_min_7cf53) (As := [.int 40, .int 0]) (st := []) (d' := 98) (mc := 0) (ms := 0) (host := "") rfl t_J9_min_7cf53 ⟨Or.inl q_0_88, s_J9_min_7cf53⟩ rfl (by decide) rfl rfl ⟨by decide, by decide⟩ (jC.of rfl k_J9_min_7cf53 rfl ?_)
                    show jX m_J9_min_7cf53 98 0 0 0 [(0, .int 40), (1, .int 0)] [] _ 0 0 _
                    refine x_iloadn (x := 40) rfl rfl ?_
                    refine x_iloadn (x := 0) rfl rfl ?_
                    refine x_icgt (tgt := 9) rfl rfl (br_t (by decide) ?_)
                    refine x_iloadn (x := 0) rfl rfl ?_
                    refine x_iret rfl rfl ?_
                    show jX m_X0_readHouses 99 0 0 51 [(0, .ref 98), (1, .int a2), (2, .int a3)] [.int 0] _ 0 0 _
                    refine x_istoren (ls' := [(3, .int 0), (0, .ref 98), (1, .int a2), (2, .int a3)]) rfl rfl rfl ?_
                    refine x_aloadn (x := 98) rfl rfl ?_
                    refine x_aloadn (x := 98) rfl rfl ?_
                    refine x_getR (b := 32) 0 0 rfl f_0_57 rfl (congrArg Prod.fst (F.1 98 (0, 16) rfl rfl)) (F.2.1 12544 32 rfl rfl) ?_
                    refine x_getR (b := 47) 1 7 rfl f_0_129 rfl (congrArg Prod.fst (F.1 32 (1, 20) rfl rfl)) (F.2.1 4103 47 rfl rfl) ?_
                    refine x_iconst (v := 3) rfl ki_3 ?_
                    refine x_aloadn (x := 98) rfl rfl ?_
                    refine x_getR (b := 102) 0 5 rfl f_0_21 rfl (congrArg Prod.fst (F.1 98 (0, 16) rfl rfl)) (F.2.1 12549 102 rfl rfl) ?_
                    refine x_iconst (v := 0) rfl ki_0 ?_
                    refine x_inv (N := m_X0_readLatest) (As := [.ref 47, .int 3, .ref 102, .int 0]) (b := 98) (st := []) (d' := 98) (mc := 0) (ms := 0) (host := "") 0 rfl t_X0_readLatest ⟨Or.inl q_0_132, i_X0_readLatest.1, i_X0_readLatest.2⟩ ⟨by decide, rfl⟩ (congrArg Prod.fst (F.1 98 (0, 16) rfl rfl)) rfl (by decide) rfl rfl ⟨by decide, by decide⟩ (jC.of rfl k_X0_readLatest rfl ?_)
                    show jX m_X0_readLatest 98 0 0 0 [(0, .ref 98), (1, .ref 47), (2, .int 3), (3, .ref 102), (4, .int 0)] [] _ 0 0 _
                    refine x_iconst (v := 0) rfl ki_0 ?_
                    refine x_istore (ls' := [(5, .int 0), (0, .ref 98), (1, .ref 47), (2, .int 3), (3, .ref 102), (4, .int 0)]) rfl rfl rfl ?_
                    refine x_iload (x := 0) rfl rfl ?_
                    refine x_bipush (v := 40) rfl kb_40 ?_
                    refine x_icge (tgt := 52) rfl rfl (br_f (by decide) ?_)
                    refine x_iload (x := 0) rfl rfl ?_
                    refine x_aloadn (x := 98) rfl rfl ?_
                    refine x_getR (b := 32) 0 0 rfl f_0_57 rfl (congrArg Prod.fst (F.1 98 (0, 16) rfl rfl)) (F.2.1 12544 32 rfl rfl) ?_
                    refine x_getR (b := 49) 1 8 rfl f_0_120 rfl (congrArg Prod.fst (F.1 32 (1, 20) rfl rfl)) (F.2.1 4104 49 rfl rfl) ?_
                    refine y_getI (v := 0) 8 3 rfl f_0_124 rfl (congrArg Prod.fst (F.1 49 (8, 4) rfl rfl)) (F.2.2.1 6275 0 rfl rfl) ?_
                    refine x_icge (tgt := 52) rfl rfl (br_t (by decide) ?_)
                    refine x_iconst (v := 0) rfl ki_0 ?_
                    refine x_istore (ls' := [(5, .int 0), (0, .ref 98), (1, .ref 47), (2, .int 3), (3, .ref 102), (4, .int 0)]) rfl rfl rfl ?_
                    refine x_iload (x := 0) rfl rfl ?_
                    refine x_aloadn (x := 47) rfl rfl ?_
                    refine y_getI (v := 0) 8 3 rfl f_0_124 rfl (congrArg Prod.fst (F.1 47 (8, 4) rfl rfl)) (F.2.2.1 6019 0 rfl rfl) ?_
                    refine x_icge (tgt := 161) rfl rfl (br_t (by decide) ?_)
                    refine x_vret rfl rfl ?_
                    show jX m_X0_readHouses 99 0 0 69 [(3, .int 0), (0, .ref 98), (1, .int a2), (2, .int a3)] [] _ 0 0 _
                    refine x_aloadn (x := 98) rfl rfl ?_
                    refine x_aloadn (x := 98) rfl rfl ?_
                    refine x_getR (b := 32) 0 0 rfl f_0_57 rfl (congrArg Prod.fst (F.1 98 (0, 16) rfl rfl)) (F.2.1 12544 32 rfl rfl) ?_
                    refine x_getR (b := 51) 1 9 rfl f_0_136 rfl (congrArg Prod.fst (F.1 32 (1, 20) rfl rfl)) (F.2.1 4105 51 rfl rfl) ?_
                    refine x_iconst (v := 3) rfl ki_3 ?_
                    refine x_aloadn (x := 98) rfl rfl ?_
                    refine x_getR (b := 103) 0 6 rfl f_0_24 rfl (congrArg Prod.fst (F.1 98 (0, 16) rfl rfl)) (F.2.1 12550 103 rfl rfl) ?_
                    refine x_iconst (v := (-1)) rfl ki_m1 ?_
                    refine x_inv (N := m_X0_readLatest) (As := [.ref 51, .int 3, .ref 103, .int (-1)]) (b := 98) (st := []) (d' := 98) (mc := 0) (ms := 0) (host := "") 0 rfl t_X0_readLatest ⟨Or.inl q_0_132, i_X0_readLatest.1, i_X0_readLatest.2⟩ ⟨by decide, rfl⟩ (congrArg Prod.fst (F.1 98 (0, 16) rfl rfl)) rfl (by decide) rfl rfl ⟨by decide, by decide⟩ (jC.of rfl k_X0_readLatest rfl ?_)
                    show jX m_X0_readLatest 98 0 0 0 [(0, .ref 98), (1, .ref 51), (2, .int 3), (3, .ref 103), (4, .int (-1))] [] _ 0 0 _
                    refine x_iconst (v := 0) rfl ki_0 ?_
                    refine x_istore (ls' := [(5, .int 0), (0, .ref 98), (1, .ref 51), (2, .int 3), (3, .ref 103), (4, .int (-1))]) rfl rfl rfl ?_
                    refine x_iload (x := 0) rfl rfl ?_
                    refine x_bipush (v := 40) rfl kb_40 ?_
                    refine x_icge (tgt := 52) rfl rfl (br_f (by decide) ?_)
                    refine x_iload (x := 0) rfl rfl ?_
                    refine x_aloadn (x := 98) rfl rfl ?_
                    refine x_getR (b := 32) 0 0 rfl f_0_57 rfl (congrArg Prod.fst (F.1 98 (0, 16) rfl rfl)) (F.2.1 12544 32 rfl rfl) ?_
                    refine x_getR (b := 49) 1 8 rfl f_0_120 rfl (congrArg Prod.fst (F.1 32 (1, 20) rfl rfl)) (F.2.1 4104 49 rfl rfl) ?_
                    refine y_getI (v := 0) 8 3 rfl f_0_124 rfl (congrArg Prod.fst (F.1 49 (8, 4) rfl rfl)) (F.2.2.1 6275 0 rfl rfl) ?_
                    refine x_icge (tgt := 52) rfl rfl (br_t (by decide) ?_)
                    refine x_iconst (v := 0) rfl ki_0 ?_
                    refine x_istore (ls' := [(5, .int 0), (0, .ref 98), (1, .ref 51), (2, .int 3), (3, .ref 103), (4, .int (-1))]) rfl rfl rfl ?_
                    refine x_iload (x := 0) rfl rfl ?_
                    refine x_aloadn (x := 51) rfl rfl ?_
                    refine y_getI (v := 0) 8 3 rfl f_0_124 rfl (congrArg Prod.fst (F.1 51 (8, 4) rfl rfl)) (F.2.2.1 6531 0 rfl rfl) ?_
                    refine x_icge (tgt := 161) rfl rfl (br_t (by decide) ?_)
                    refine x_vret rfl rfl ?_
                    show jX m_X0_readHouses 99 0 0 86 [(3, .int 0), (0, .ref 98), (1, .int a2), (2, .int a3)] [] _ 0 0 _
                    refine x_iconst (v := 0) rfl ki_0 ?_
                    refine x_istore (ls' := [(4, .int 0), (3, .int 0), (0, .ref 98), (1, .int a2), (2, .int a3)]) rfl rfl rfl ?_
                    refine x_iload (x := 0) rfl rfl ?_
                    refine x_iloadn (x := 0) rfl rfl ?_
                    refine x_icge (tgt := 172) rfl rfl (br_t (by decide) ?_)
                    refine x_vret rfl rfl ?_
                    show jX m_X11_house 100 0 0 52 [(0, .ref 31), (1, .int a1), (2, .int a2), (3, .int a3), (4, .int a4)] [] _ 0 0 _
                    refine x_iload (x := a4) rfl rfl ?_
                    refine x_ifne (tgt := 69) rfl rfl (ti_ne (show (a4 : Int32).toInt = a4.toInt from rfl) (show (0 : Int32).toInt = 0 by decide) ⟨fun c10 => ?_, fun c10 => ?_⟩)
                    ·
                      refine x_aloadn (x := 31) rfl rfl ?_
                      refine x_getR (b := 98) 11 7 rfl f_11_66 rfl (congrArg Prod.fst (F.1 31 (11, 13) rfl rfl)) (F.2.1 3975 98 rfl rfl) ?_
                      refine x_getR (b := 103) 0 6 rfl f_11_430 rfl (congrArg Prod.fst (F.1 98 (0, 16) rfl rfl)) (F.2.1 12550 103 rfl rfl) ?_
                      refine x_iloadn (x := a1) rfl rfl ?_
                      refine y_iald (v := 0) (N := 40) a1.toNatClampNeg rfl (F.1 103 (100, 40) rfl rfl) (vpi (by omega)) rfl (F.2.2.2.1 103 rfl rfl _).1 ?_
                      refine x_iret rfl rfl ?_
                      exact jqe (show sp_house a1 a2 a3 a4 = 0 by unfold sp_house; (repeat' split) <;> first | rfl | (exfalso; omega)) (hQ _ (by repeat (first | exact FM | refine jFb_si rfl ?_ | refine jFb_sl rfl ?_ | refine jFb_ci rfl ?_ | refine jFb_cl rfl ?_ | refine jFb_sr rfl ?_)) (by repeat (first | exact O | refine jOl_si rfl ?_ | refine jOl_sl rfl ?_ | refine jOl_ci rfl ?_ | refine jOl_cl rfl ?_ | refine jOl_sr rfl ?_)))
                    ·
                      refine x_aloadn (x := 31) rfl rfl ?_
                      refine x_getR (b := 98) 11 7 rfl f_11_66 rfl (congrArg Prod.fst (F.1 31 (11, 13) rfl rfl)) (F.2.1 3975 98 rfl rfl) ?_
                      refine x_getR (b := 102) 0 5 rfl f_11_427 rfl (congrArg Prod.fst (F.1 98 (0, 16) rfl rfl)) (F.2.1 12549 102 rfl rfl) ?_
                      refine x_iloadn (x := a1) rfl rfl ?_
                      refine y_iald (v := 0) (N := 40) a1.toNatClampNeg rfl (F.1 102 (100, 40) rfl rfl) (vpi (by omega)) rfl (F.2.2.2.1 102 rfl rfl _).1 ?_
                      refine x_goto (tgt := 78) rfl rfl ?_
                      refine x_iret rfl rfl ?_
                      exact jqe (show sp_house a1 a2 a3 a4 = 0 by unfold sp_house; (repeat' split) <;> first | rfl | (exfalso; omega)) (hQ _ (by repeat (first | exact FM | refine jFb_si rfl ?_ | refine jFb_sl rfl ?_ | refine jFb_ci rfl ?_ | refine jFb_cl rfl ?_ | refine jFb_sr rfl ?_)) (by repeat (first | exact O | refine jOl_si rfl ?_ | refine jOl_sl rfl ?_ | refine jOl_ci rfl ?_ | refine jOl_cl rfl ?_ | refine jOl_sr rfl ?_)))
                  ·
                    refine x_aloadn (x := 105) rfl rfl ?_
                    refine x_iconst (v := 1) rfl ki_1 ?_
                    refine y_iald (v := 0) (N := 3) 1 rfl (F.1 105 (100, 3) rfl rfl) (jinb_of (by decide)) (by decide) (F.2.2.2.1 105 rfl rfl 1).1 ?_
                    refine x_iloadn (x := a3) rfl rfl ?_
                    refine x_icne (tgt := 33) rfl rfl (ti_ne (show (0 : Int32).toInt = 0 by decide) (show (a3 : Int32).toInt = a3.toInt from rfl) (bn_t c8 ?_))
                    refine x_iconst (v := 0) rfl ki_0 ?_
                    refine x_istore (ls' := [(4, .int 0), (0, .ref 105), (1, .int a2), (2, .int a3), (3, .int 1)]) rfl rfl rfl ?_
                    refine x_aloadn (x := 105) rfl rfl ?_
                    refine x_iconst (v := 0) rfl ki_0 ?_
                    refine x_iloadn (x := a2) rfl rfl ?_
                    refine y_iast (N := 3) 0 rfl (F.1 105 (100, 3) rfl rfl) rfl (jinb_of (by decide)) (by decide) ?_
                    refine x_aloadn (x := 105) rfl rfl ?_
                    refine x_iconst (v := 1) rfl ki_1 ?_
                    refine x_iloadn (x := a3) rfl rfl ?_
                    refine y_iast (N := 3) 1 rfl (F.1 105 (100, 3) rfl rfl) rfl (jinb_of (by decide)) (by decide) ?_
                    refine x_aloadn (x := 105) rfl rfl ?_
                    refine x_iconst (v := 2) rfl ki_2 ?_
                    refine x_iloadn (x := 1) rfl rfl ?_
                    refine y_iast (N := 3) 2 rfl (F.1 105 (100, 3) rfl rfl) rfl (jinb_of (by decide)) (by decide) ?_
                    refine x_iload (x := 0) rfl rfl ?_
                    refine x_zret rfl rfl (by first | decide | exact jp_01 _) ?_
                    show jX m_X0_readHouses 99 0 0 32 [(0, .ref 98), (1, .int a2), (2, .int a3)] [.int 0] _ 0 0 _
                    refine x_ifeq (tgt := 36) rfl rfl (br_t (by decide) ?_)
                    refine x_bipush (v := 40) rfl kb_40 ?_
                    refine x_aloadn (x := 98) rfl rfl ?_
                    refine x_getR (b := 32) 0 0 rfl f_0_57 rfl (congrArg Prod.fst (F.1 98 (0, 16) rfl rfl)) (F.2.1 12544 32 rfl rfl) ?_
                    refine x_getR (b := 49) 1 8 rfl f_0_120 rfl (congrArg Prod.fst (F.1 32 (1, 20) rfl rfl)) (F.2.1 4104 49 rfl rfl) ?_
                    refine y_getI (v := 0) 8 3 rfl f_0_124 rfl (congrArg Prod.fst (F.1 49 (8, 4) rfl rfl)) (F.2.2.1 6275 0 rfl rfl) ?_
                    refine x_inst (N := m_J9_min_7cf53) (As := [.int 40, .int 0]) (st := []) (d' := 98) (mc := 0) (ms := 0) (host := "") rfl t_J9_min_7cf53 ⟨Or.inl q_0_88, s_J9_min_7cf53⟩ rfl (by decide) rfl rfl ⟨by decide, by decide⟩ (jC.of rfl k_J9_min_7cf53 rfl ?_)
                    show jX m_J9_min_7cf53 98 0 0 0 [(0, .int 40), (1, .int 0)] [] _ 0 0 _
                    refine x_iloadn (x := 40) rfl rfl ?_
                    refine x_iloadn (x := 0) rfl rfl ?_
                    refine x_icgt (tgt := 9) rfl rfl (br_t (by decide) ?_)
                    refine x_iloadn (x := 0) rfl rfl ?_
                    refine x_iret rfl rfl ?_
                    show jX m_X0_readHouses 99 0 0 51 [(0, .ref 98), (1, .int a2), (2, .int a3)] [.int 0] _ 0 0 _
                    refine x_istoren (ls' := [(3, .int 0), (0, .ref 98), (1, .int a2), (2, .int a3)]) rfl rfl rfl ?_
                    refine x_aloadn (x := 98) rfl rfl ?_
                    refine x_aloadn (x := 98) rfl rfl ?_
                    refine x_getR (b := 32) 0 0 rfl f_0_57 rfl (congrArg Prod.fst (F.1 98 (0, 16) rfl rfl)) (F.2.1 12544 32 rfl rfl) ?_
                    refine x_getR (b := 47) 1 7 rfl f_0_129 rfl (congrArg Prod.fst (F.1 32 (1, 20) rfl rfl)) (F.2.1 4103 47 rfl rfl) ?_
                    refine x_iconst (v := 3) rfl ki_3 ?_
                    refine x_aloadn (x := 98) rfl rfl ?_
                    refine x_getR (b := 102) 0 5 rfl f_0_21 rfl (congrArg Prod.fst (F.1 98 (0, 16) rfl rfl)) (F.2.1 12549 102 rfl rfl) ?_
                    refine x_iconst (v := 0) rfl ki_0 ?_
                    refine x_inv (N := m_X0_readLatest) (As := [.ref 47, .int 3, .ref 102, .int 0]) (b := 98) (st := []) (d' := 98) (mc := 0) (ms := 0) (host := "") 0 rfl t_X0_readLatest ⟨Or.inl q_0_132, i_X0_readLatest.1, i_X0_readLatest.2⟩ ⟨by decide, rfl⟩ (congrArg Prod.fst (F.1 98 (0, 16) rfl rfl)) rfl (by decide) rfl rfl ⟨by decide, by decide⟩ (jC.of rfl k_X0_readLatest rfl ?_)
                    show jX m_X0_readLatest 98 0 0 0 [(0, .ref 98), (1, .ref 47), (2, .int 3), (3, .ref 102), (4, .int 0)] [] _ 0 0 _
                    refine x_iconst (v := 0) rfl ki_0 ?_
                    refine x_istore (ls' := [(5, .int 0), (0, .ref 98), (1, .ref 47), (2, .int 3), (3, .ref 102), (4, .int 0)]) rfl rfl rfl ?_
                    refine x_iload (x := 0) rfl rfl ?_
                    refine x_bipush (v := 40) rfl kb_40 ?_
                    refine x_icge (tgt := 52) rfl rfl (br_f (by decide) ?_)
                    refine x_iload (x := 0) rfl rfl ?_
                    refine x_aloadn (x := 98) rfl rfl ?_
                    refine x_getR (b := 32) 0 0 rfl f_0_57 rfl (congrArg Prod.fst (F.1 98 (0, 16) rfl rfl)) (F.2.1 12544 32 rfl rfl) ?_
                    refine x_getR (b := 49) 1 8 rfl f_0_120 rfl (congrArg Prod.fst (F.1 32 (1, 20) rfl rfl)) (F.2.1 4104 49 rfl rfl) ?_
                    refine y_getI (v := 0) 8 3 rfl f_0_124 rfl (congrArg Prod.fst (F.1 49 (8, 4) rfl rfl)) (F.2.2.1 6275 0 rfl rfl) ?_
                    refine x_icge (tgt := 52) rfl rfl (br_t (by decide) ?_)
                    refine x_iconst (v := 0) rfl ki_0 ?_
                    refine x_istore (ls' := [(5, .int 0), (0, .ref 98), (1, .ref 47), (2, .int 3), (3, .ref 102), (4, .int 0)]) rfl rfl rfl ?_
                    refine x_iload (x := 0) rfl rfl ?_
                    refine x_aloadn (x := 47) rfl rfl ?_
                    refine y_getI (v := 0) 8 3 rfl f_0_124 rfl (congrArg Prod.fst (F.1 47 (8, 4) rfl rfl)) (F.2.2.1 6019 0 rfl rfl) ?_
                    refine x_icge (tgt := 161) rfl rfl (br_t (by decide) ?_)
                    refine x_vret rfl rfl ?_
                    show jX m_X0_readHouses 99 0 0 69 [(3, .int 0), (0, .ref 98), (1, .int a2), (2, .int a3)] [] _ 0 0 _
                    refine x_aloadn (x := 98) rfl rfl ?_
                    refine x_aloadn (x := 98) rfl rfl ?_
                    refine x_getR (b := 32) 0 0 rfl f_0_57 rfl (congrArg Prod.fst (F.1 98 (0, 16) rfl rfl)) (F.2.1 12544 32 rfl rfl) ?_
                    refine x_getR (b := 51) 1 9 rfl f_0_136 rfl (congrArg Prod.fst (F.1 32 (1, 20) rfl rfl)) (F.2.1 4105 51 rfl rfl) ?_
                    refine x_iconst (v := 3) rfl ki_3 ?_
                    refine x_aloadn (x := 98) rfl rfl ?_
                    refine x_getR (b := 103) 0 6 rfl f_0_24 rfl (congrArg Prod.fst (F.1 98 (0, 16) rfl rfl)) (F.2.1 12550 103 rfl rfl) ?_
                    refine x_iconst (v := (-1)) rfl ki_m1 ?_
                    refine x_inv (N := m_X0_readLatest) (As := [.ref 51, .int 3, .ref 103, .int (-1)]) (b := 98) (st := []) (d' := 98) (mc := 0) (ms := 0) (host := "") 0 rfl t_X0_readLatest ⟨Or.inl q_0_132, i_X0_readLatest.1, i_X0_readLatest.2⟩ ⟨by decide, rfl⟩ (congrArg Prod.fst (F.1 98 (0, 16) rfl rfl)) rfl (by decide) rfl rfl ⟨by decide, by decide⟩ (jC.of rfl k_X0_readLatest rfl ?_)
                    show jX m_X0_readLatest 98 0 0 0 [(0, .ref 98), (1, .ref 51), (2, .int 3), (3, .ref 103), (4, .int (-1))] [] _ 0 0 _
                    refine x_iconst (v := 0) rfl ki_0 ?_
                    refine x_istore (ls' := [(5, .int 0), (0, .ref 98), (1, .ref 51), (2, .int 3), (3, .ref 103), (4, .int (-1))]) rfl rfl rfl ?_
                    refine x_iload (x := 0) rfl rfl ?_
                    refine x_bipush (v := 40) rfl kb_40 ?_
                    refine x_icge (tgt := 52) rfl rfl (br_f (by decide) ?_)
                    refine x_iload (x := 0) rfl rfl ?_
                    refine x_aloadn (x := 98) rfl rfl ?_
                    refine x_getR (b := 32) 0 0 rfl f_0_57 rfl (congrArg Prod.fst (F.1 98 (0, 16) rfl rfl)) (F.2.1 12544 32 rfl rfl) ?_
                    refine x_getR (b := 49) 1 8 rfl f_0_120 rfl (congrArg Prod.fst (F.1 32 (1, 20) rfl rfl)) (F.2.1 4104 49 rfl rfl) ?_
                    refine y_getI (v := 0) 8 3 rfl f_0_124 rfl (congrArg Prod.fst (F.1 49 (8, 4) rfl rfl)) (F.2.2.1 6275 0 rfl rfl) ?_
                    refine x_icge (tgt := 52) rfl rfl (br_t (by decide) ?_)
                    refine x_iconst (v := 0) rfl ki_0 ?_
                    refine x_istore (ls' := [(5, .int 0), (0, .ref 98), (1, .ref 51), (2, .int 3), (3, .ref 103), (4, .int (-1))]) rfl rfl rfl ?_
                    refine x_iload (x := 0) rfl rfl ?_
                    refine x_aloadn (x := 51) rfl rfl ?_
                    refine y_getI (v := 0) 8 3 rfl f_0_124 rfl (congrArg Prod.fst (F.1 51 (8, 4) rfl rfl)) (F.2.2.1 6531 0 rfl rfl) ?_
                    refine x_icge (tgt := 161) rfl rfl (br_t (by decide) ?_)
                    refine x_vret rfl rfl ?_
                    show jX m_X0_readHouses 99 0 0 86 [(3, .int 0), (0, .ref 98), (1, .int a2), (2, .int a3)] [] _ 0 0 _
                    refine x_iconst (v := 0) rfl ki_0 ?_
                    refine x_istore (ls' := [(4, .int 0), (3, .int 0), (0, .ref 98), (1, .int a2), (2, .int a3)]) rfl rfl rfl ?_
                    refine x_iload (x := 0) rfl rfl ?_
                    refine x_iloadn (x := 0) rfl rfl ?_
                    refine x_icge (tgt := 172) rfl rfl (br_t (by decide) ?_)
                    refine x_vret rfl rfl ?_
                    show jX m_X11_house 100 0 0 52 [(0, .ref 31), (1, .int a1), (2, .int a2), (3, .int a3), (4, .int a4)] [] _ 0 0 _
                    refine x_iload (x := a4) rfl rfl ?_
                    refine x_ifne (tgt := 69) rfl rfl (ti_ne (show (a4 : Int32).toInt = a4.toInt from rfl) (show (0 : Int32).toInt = 0 by decide) ⟨fun c11 => ?_, fun c11 => ?_⟩)
                    ·
                      refine x_aloadn (x := 31) rfl rfl ?_
                      refine x_getR (b := 98) 11 7 rfl f_11_66 rfl (congrArg Prod.fst (F.1 31 (11, 13) rfl rfl)) (F.2.1 3975 98 rfl rfl) ?_
                      refine x_getR (b := 103) 0 6 rfl f_11_430 rfl (congrArg Prod.fst (F.1 98 (0, 16) rfl rfl)) (F.2.1 12550 103 rfl rfl) ?_
                      refine x_iloadn (x := a1) rfl rfl ?_
                      refine y_iald (v := 0) (N := 40) a1.toNatClampNeg rfl (F.1 103 (100, 40) rfl rfl) (vpi (by omega)) rfl (F.2.2.2.1 103 rfl rfl _).1 ?_
                      refine x_iret rfl rfl ?_
                      exact jqe (show sp_house a1 a2 a3 a4 = 0 by unfold sp_house; (repeat' split) <;> first | rfl | (exfalso; omega)) (hQ _ (by repeat (first | exact FM | refine jFb_si rfl ?_ | refine jFb_sl rfl ?_ | refine jFb_ci rfl ?_ | refine jFb_cl rfl ?_ | refine jFb_sr rfl ?_)) (by repeat (first | exact O | refine jOl_si rfl ?_ | refine jOl_sl rfl ?_ | refine jOl_ci rfl ?_ | refine jOl_cl rfl ?_ | refine jOl_sr rfl ?_)))
                    ·
                      refine x_aloadn (x := 31) rfl rfl ?_
                      refine x_getR (b := 98) 11 7 rfl f_11_66 rfl (congrArg Prod.fst (F.1 31 (11, 13) rfl rfl)) (F.2.1 3975 98 rfl rfl) ?_
                      refine x_getR (b := 102) 0 5 rfl f_11_427 rfl (congrArg Prod.fst (F.1 98 (0, 16) rfl rfl)) (F.2.1 12549 102 rfl rfl) ?_
                      refine x_iloadn (x := a1) rfl rfl ?_
                      refine y_iald (v := 0) (N := 40) a1.toNatClampNeg rfl (F.1 102 (100, 40) rfl rfl) (vpi (by omega)) rfl (F.2.2.2.1 102 rfl rfl _).1 ?_
                      refine x_goto (tgt := 78) rfl rfl ?_
                      refine x_iret rfl rfl ?_
                      exact jqe (show sp_house a1 a2 a3 a4 = 0 by unfold sp_house; (repeat' split) <;> first | rfl | (exfalso; omega)) (hQ _ (by repeat (first | exact FM | refine jFb_si rfl ?_ | refine jFb_sl rfl ?_ | refine jFb_ci rfl ?_ | refine jFb_cl rfl ?_ | refine jFb_sr rfl ?_)) (by repeat (first | exact O | refine jOl_si rfl ?_ | refine jOl_sl rfl ?_ | refine jOl_ci rfl ?_ | refine jOl_cl rfl ?_ | refine jOl_sr rfl ?_)))
                ·
                  refine x_aloadn (x := 86) rfl rfl ?_
                  refine x_iconst (v := 1) rfl ki_1 ?_
                  refine y_iald (v := 0) (N := 3) 1 rfl (F.1 86 (100, 3) rfl rfl) (jinb_of (by decide)) (by decide) (F.2.2.2.1 86 rfl rfl 1).1 ?_
                  refine x_iloadn (x := 0) rfl rfl ?_
                  refine x_icne (tgt := 33) rfl rfl (bn_f (by decide) ?_)
                  refine x_aloadn (x := 86) rfl rfl ?_
                  refine x_iconst (v := 2) rfl ki_2 ?_
                  refine y_iald (v := 0) (N := 3) 2 rfl (F.1 86 (100, 3) rfl rfl) (jinb_of (by decide)) (by decide) (F.2.2.2.1 86 rfl rfl 2).1 ?_
                  refine x_iloadn (x := 1) rfl rfl ?_
                  refine x_icne (tgt := 33) rfl rfl (bn_t (by decide) ?_)
                  refine x_iconst (v := 0) rfl ki_0 ?_
                  refine x_istore (ls' := [(4, .int 0), (0, .ref 86), (1, .int a3), (2, .int 0), (3, .int 1)]) rfl rfl rfl ?_
                  refine x_aloadn (x := 86) rfl rfl ?_
                  refine x_iconst (v := 0) rfl ki_0 ?_
                  refine x_iloadn (x := a3) rfl rfl ?_
                  refine y_iast (N := 3) 0 rfl (F.1 86 (100, 3) rfl rfl) rfl (jinb_of (by decide)) (by decide) ?_
                  refine x_aloadn (x := 86) rfl rfl ?_
                  refine x_iconst (v := 1) rfl ki_1 ?_
                  refine x_iloadn (x := 0) rfl rfl ?_
                  refine y_iast (N := 3) 1 rfl (F.1 86 (100, 3) rfl rfl) rfl (jinb_of (by decide)) (by decide) ?_
                  refine x_aloadn (x := 86) rfl rfl ?_
                  refine x_iconst (v := 2) rfl ki_2 ?_
                  refine x_iloadn (x := 1) rfl rfl ?_
                  refine y_iast (N := 3) 2 rfl (F.1 86 (100, 3) rfl rfl) rfl (jinb_of (by decide)) (by decide) ?_
                  refine x_iload (x := 0) rfl rfl ?_
                  refine x_zret rfl rfl (by first | decide | exact jp_01 _) ?_
                  show jX m_X7_asKnown 99 0 0 16 [(0, .ref 78), (1, .int a3)] [.int 0] _ 0 0 _
                  refine x_ifeq (tgt := 20) rfl rfl (br_t (by decide) ?_)
                  refine x_iconst (v := 0) rfl ki_0 ?_
                  refine x_istoren (ls' := [(2, .int 0), (0, .ref 78), (1, .int a3)]) rfl rfl rfl ?_
                  refine x_iloadn (x := 0) rfl rfl ?_
                  refine x_aloadn (x := 78) rfl rfl ?_
                  refine x_getR (b := 32) 7 0 rfl f_7_55 rfl (congrArg Prod.fst (F.1 78 (7, 16) rfl rfl)) (F.2.1 9984 32 rfl rfl) ?_
                  refine x_getR (b := 33) 1 0 rfl f_7_63 rfl (congrArg Prod.fst (F.1 32 (1, 20) rfl rfl)) (F.2.1 4096 33 rfl rfl) ?_
                  refine y_getI (v := 0) 8 3 rfl f_7_85 rfl (congrArg Prod.fst (F.1 33 (8, 4) rfl rfl)) (F.2.2.1 4227 0 rfl rfl) ?_
                  refine x_iconst (v := 3) rfl ki_3 ?_
                  refine y_imul (v := 0) rfl (by decide) ?_
                  refine x_icge (tgt := 96) rfl rfl (br_t (by decide) ?_)
                  refine x_aloadn (x := 78) rfl rfl ?_
                  refine x_iconst (v := 0) rfl ki_0 ?_
                  refine x_putI 7 13 rfl f_7_46 rfl (jfin_no TX7 RX7 16 rfl rfl) (congrArg Prod.fst (F.1 78 (7, 16) rfl rfl)) rfl ?_
                  refine x_iconst (v := 0) rfl ki_0 ?_
                  refine x_istoren (ls' := [(2, .int 0), (0, .ref 78), (1, .int a3)]) rfl rfl rfl ?_
                  refine x_iloadn (x := 0) rfl rfl ?_
                  refine x_aloadn (x := 78) rfl rfl ?_
                  refine x_getR (b := 32) 7 0 rfl f_7_55 rfl (congrArg Prod.fst (F.1 78 (7, 16) rfl rfl)) (F.2.1 9984 32 rfl rfl) ?_
                  refine x_getR (b := 39) 1 3 rfl f_7_150 rfl (congrArg Prod.fst (F.1 32 (1, 20) rfl rfl)) (F.2.1 4099 39 rfl rfl) ?_
                  refine y_getI (v := 0) 8 3 rfl f_7_85 rfl (congrArg Prod.fst (F.1 39 (8, 4) rfl rfl)) (F.2.2.1 4995 0 rfl rfl) ?_
                  refine x_icge (tgt := 175) rfl rfl (br_t (by decide) ?_)
                  refine x_vret rfl rfl ?_
                  show jX m_X11_house 100 0 0 43 [(0, .ref 31), (1, .int a1), (2, .int a2), (3, .int a3), (4, .int a4)] [] _ 0 0 _
                  refine x_aloadn (x := 31) rfl rfl ?_
                  refine x_getR (b := 98) 11 7 rfl f_11_66 rfl (congrArg Prod.fst (F.1 31 (11, 13) rfl rfl)) (F.2.1 3975 98 rfl rfl) ?_
                  refine x_iloadn (x := a2) rfl rfl ?_
                  refine x_iloadn (x := a3) rfl rfl ?_
                  refine x_inv (N := m_X0_readHouses) (As := [.int a2, .int a3]) (b := 98) (st := []) (d' := 99) (mc := 0) (ms := 0) (host := "") 0 rfl t_X0_readHouses ⟨Or.inl q_11_424, i_X0_readHouses.1, i_X0_readHouses.2⟩ ⟨by decide, rfl⟩ (congrArg Prod.fst (F.1 98 (0, 16) rfl rfl)) rfl (by decide) rfl rfl ⟨by decide, by decide⟩ (jC.of rfl k_X0_readHouses rfl ?_)
                  show jX m_X0_readHouses 99 0 0 0 [(0, .ref 98), (1, .int a2), (2, .int a3)] [] _ 0 0 _
                  refine x_aloadn (x := 98) rfl rfl ?_
                  refine x_iloadn (x := a2) rfl rfl ?_
                  refine x_putI 0 10 rfl f_0_37 rfl (jfin_no TX0 RX0 16 rfl rfl) (congrArg Prod.fst (F.1 98 (0, 16) rfl rfl)) rfl ?_
                  refine x_aloadn (x := 98) rfl rfl ?_
                  refine x_iloadn (x := a3) rfl rfl ?_
                  refine x_putI 0 11 rfl f_0_41 rfl (jfin_no TX0 RX0 16 rfl rfl) (congrArg Prod.fst (F.1 98 (0, 16) rfl rfl)) rfl ?_
                  refine x_aloadn (x := 98) rfl rfl ?_
                  refine x_getR (b := 105) 0 8 rfl f_0_30 rfl (congrArg Prod.fst (F.1 98 (0, 16) rfl rfl)) (F.2.1 12552 105 rfl rfl) ?_
                  refine x_aloadn (x := 98) rfl rfl ?_
                  refine y_getI (v := a2) 0 10 rfl f_0_37 rfl (congrArg Prod.fst (F.1 98 (0, 16) rfl rfl)) rfl ?_
                  refine x_aloadn (x := 98) rfl rfl ?_
                  refine y_getI (v := a3) 0 11 rfl f_0_41 rfl (congrArg Prod.fst (F.1 98 (0, 16) rfl rfl)) rfl ?_
                  refine x_aloadn (x := 98) rfl rfl ?_
                  refine x_getR (b := 32) 0 0 rfl f_0_57 rfl (congrArg Prod.fst (F.1 98 (0, 16) rfl rfl)) (F.2.1 12544 32 rfl rfl) ?_
                  refine y_getI (v := 1) 1 19 rfl f_0_81 rfl (congrArg Prod.fst (F.1 32 (1, 20) rfl rfl)) (F.2.2.1 4115 1 rfl rfl) ?_
                  refine x_inst (N := m_X11_isFresh) (As := [.ref 105, .int a2, .int a3, .int 1]) (st := []) (d' := 98) (mc := 0) (ms := 0) (host := "ParishChest") rfl t_X11_isFresh ⟨Or.inr q_0_84, s_X11_isFresh⟩ rfl (by decide) rfl rfl ⟨by decide, by decide⟩ (jC.of rfl k_X11_isFresh rfl ?_)
                  show jX m_X11_isFresh 98 0 0 0 [(0, .ref 105), (1, .int a2), (2, .int a3), (3, .int 1)] [] _ 0 0 _
                  refine x_aloadn (x := 105) rfl rfl ?_
                  refine y_alen (N := 3) (v := 3) rfl (F.1 105 (100, 3) rfl rfl) (by decide) (by decide) ?_
                  refine x_iconst (v := 3) rfl ki_3 ?_
                  refine x_icge (tgt := 8) rfl rfl (br_t (by decide) ?_)
                  refine x_aloadn (x := 105) rfl rfl ?_
                  refine x_iconst (v := 0) rfl ki_0 ?_
                  refine y_iald (v := 0) (N := 3) 0 rfl (F.1 105 (100, 3) rfl rfl) (jinb_of (by decide)) (by decide) (F.2.2.2.1 105 rfl rfl 0).1 ?_
                  refine x_iloadn (x := a2) rfl rfl ?_
                  refine x_icne (tgt := 33) rfl rfl (ti_ne (show (0 : Int32).toInt = 0 by decide) (show (a2 : Int32).toInt = a2.toInt from rfl) ⟨fun c12 => ?_, fun c12 => ?_⟩)
                  ·
                    refine x_iconst (v := 0) rfl ki_0 ?_
                    refine x_istore (ls' := [(4, .int 0), (0, .ref 105), (1, .int a2), (2, .int a3), (3, .int 1)]) rfl rfl rfl ?_
                    refine x_aloadn (x := 105) rfl rfl ?_
                    refine x_iconst (v := 0) rfl ki_0 ?_
                    refine x_iloadn (x := a2) rfl rfl ?_
                    refine y_iast (N := 3) 0 rfl (F.1 105 (100, 3) rfl rfl) rfl (jinb_of (by decide)) (by decide) ?_
                    refine x_aloadn (x := 105) rfl rfl ?_
                    refine x_iconst (v := 1) rfl ki_1 ?_
                    refine x_iloadn (x := a3) rfl rfl ?_
                    refine y_iast (N := 3) 1 rfl (F.1 105 (100, 3) rfl rfl) rfl (jinb_of (by decide)) (by decide) ?_
                    refine x_aloadn (x := 105) rfl rfl ?_
                    refine x_iconst (v := 2) rfl ki_2 ?_
                    refine x_iloadn (x := 1) rfl rfl ?_
                    refine y_iast (N := 3) 2 rfl (F.1 105 (100, 3) rfl rfl) rfl (jinb_of (by decide)) (by decide) ?_
                    refine x_iload (x := 0) rfl rfl ?_
                    refine x_zret rfl rfl (by first | decide | exact jp_01 _) ?_
                    show jX m_X0_readHouses 99 0 0 32 [(0, .ref 98), (1, .int a2), (2, .int a3)] [.int 0] _ 0 0 _
                    refine x_ifeq (tgt := 36) rfl rfl (br_t (by decide) ?_)
                    refine x_bipush (v := 40) rfl kb_40 ?_
                    refine x_aloadn (x := 98) rfl rfl ?_
                    refine x_getR (b := 32) 0 0 rfl f_0_57 rfl (congrArg Prod.fst (F.1 98 (0, 16) rfl rfl)) (F.2.1 12544 32 rfl rfl) ?_
                    refine x_getR (b := 49) 1 8 rfl f_0_120 rfl (congrArg Prod.fst (F.1 32 (1, 20) rfl rfl)) (F.2.1 4104 49 rfl rfl) ?_
                    refine y_getI (v := 0) 8 3 rfl f_0_124 rfl (congrArg Prod.fst (F.1 49 (8, 4) rfl rfl)) (F.2.2.1 6275 0 rfl rfl) ?_
                    refine x_inst (N := m_J9_min_7cf53) (As := [.int 40, .int 0]) (st := []) (d' := 98) (mc := 0) (ms := 0) (host := "") rfl t_J9_min_7cf53 ⟨Or.inl q_0_88, s_J9_min_7cf53⟩ rfl (by decide) rfl rfl ⟨by decide, by decide⟩ (jC.of rfl k_J9_min_7cf53 rfl ?_)
                    show jX m_J9_min_7cf53 98 0 0 0 [(0, .int 40), (1, .int 0)] [] _ 0 0 _
                    refine x_iloadn (x := 40) rfl rfl ?_
                    refine x_iloadn (x := 0) rfl rfl ?_
                    refine x_icgt (tgt := 9) rfl rfl (br_t (by decide) ?_)
                    refine x_iloadn (x := 0) rfl rfl ?_
                    refine x_iret rfl rfl ?_
                    show jX m_X0_readHouses 99 0 0 51 [(0, .ref 98), (1, .int a2), (2, .int a3)] [.int 0] _ 0 0 _
                    refine x_istoren (ls' := [(3, .int 0), (0, .ref 98), (1, .int a2), (2, .int a3)]) rfl rfl rfl ?_
                    refine x_aloadn (x := 98) rfl rfl ?_
                    refine x_aloadn (x := 98) rfl rfl ?_
                    refine x_getR (b := 32) 0 0 rfl f_0_57 rfl (congrArg Prod.fst (F.1 98 (0, 16) rfl rfl)) (F.2.1 12544 32 rfl rfl) ?_
                    refine x_getR (b := 47) 1 7 rfl f_0_129 rfl (congrArg Prod.fst (F.1 32 (1, 20) rfl rfl)) (F.2.1 4103 47 rfl rfl) ?_
                    refine x_iconst (v := 3) rfl ki_3 ?_
                    refine x_aloadn (x := 98) rfl rfl ?_
                    refine x_getR (b := 102) 0 5 rfl f_0_21 rfl (congrArg Prod.fst (F.1 98 (0, 16) rfl rfl)) (F.2.1 12549 102 rfl rfl) ?_
                    refine x_iconst (v := 0) rfl ki_0 ?_
                    refine x_inv (N := m_X0_readLatest) (As := [.ref 47, .int 3, .ref 102, .int 0]) (b := 98) (st := []) (d' := 98) (mc := 0) (ms := 0) (host := "") 0 rfl t_X0_readLatest ⟨Or.inl q_0_132, i_X0_readLatest.1, i_X0_readLatest.2⟩ ⟨by decide, rfl⟩ (congrArg Prod.fst (F.1 98 (0, 16) rfl rfl)) rfl (by decide) rfl rfl ⟨by decide, by decide⟩ (jC.of rfl k_X0_readLatest rfl ?_)
                    show jX m_X0_readLatest 98 0 0 0 [(0, .ref 98), (1, .ref 47), (2, .int 3), (3, .ref 102), (4, .int 0)] [] _ 0 0 _
                    refine x_iconst (v := 0) rfl ki_0 ?_
                    refine x_istore (ls' := [(5, .int 0), (0, .ref 98), (1, .ref 47), (2, .int 3), (3, .ref 102), (4, .int 0)]) rfl rfl rfl ?_
                    refine x_iload (x := 0) rfl rfl ?_
                    refine x_bipush (v := 40) rfl kb_40 ?_
                    refine x_icge (tgt := 52) rfl rfl (br_f (by decide) ?_)
                    refine x_iload (x := 0) rfl rfl ?_
                    refine x_aloadn (x := 98) rfl rfl ?_
                    refine x_getR (b := 32) 0 0 rfl f_0_57 rfl (congrArg Prod.fst (F.1 98 (0, 16) rfl rfl)) (F.2.1 12544 32 rfl rfl) ?_
                    refine x_getR (b := 49) 1 8 rfl f_0_120 rfl (congrArg Prod.fst (F.1 32 (1, 20) rfl rfl)) (F.2.1 4104 49 rfl rfl) ?_
                    refine y_getI (v := 0) 8 3 rfl f_0_124 rfl (congrArg Prod.fst (F.1 49 (8, 4) rfl rfl)) (F.2.2.1 6275 0 rfl rfl) ?_
                    refine x_icge (tgt := 52) rfl rfl (br_t (by decide) ?_)
                    refine x_iconst (v := 0) rfl ki_0 ?_
                    refine x_istore (ls' := [(5, .int 0), (0, .ref 98), (1, .ref 47), (2, .int 3), (3, .ref 102), (4, .int 0)]) rfl rfl rfl ?_
                    refine x_iload (x := 0) rfl rfl ?_
                    refine x_aloadn (x := 47) rfl rfl ?_
                    refine y_getI (v := 0) 8 3 rfl f_0_124 rfl (congrArg Prod.fst (F.1 47 (8, 4) rfl rfl)) (F.2.2.1 6019 0 rfl rfl) ?_
                    refine x_icge (tgt := 161) rfl rfl (br_t (by decide) ?_)
                    refine x_vret rfl rfl ?_
                    show jX m_X0_readHouses 99 0 0 69 [(3, .int 0), (0, .ref 98), (1, .int a2), (2, .int a3)] [] _ 0 0 _
                    refine x_aloadn (x := 98) rfl rfl ?_
                    refine x_aloadn (x := 98) rfl rfl ?_
                    refine x_getR (b := 32) 0 0 rfl f_0_57 rfl (congrArg Prod.fst (F.1 98 (0, 16) rfl rfl)) (F.2.1 12544 32 rfl rfl) ?_
                    refine x_getR (b := 51) 1 9 rfl f_0_136 rfl (congrArg Prod.fst (F.1 32 (1, 20) rfl rfl)) (F.2.1 4105 51 rfl rfl) ?_
                    refine x_iconst (v := 3) rfl ki_3 ?_
                    refine x_aloadn (x := 98) rfl rfl ?_
                    refine x_getR (b := 103) 0 6 rfl f_0_24 rfl (congrArg Prod.fst (F.1 98 (0, 16) rfl rfl)) (F.2.1 12550 103 rfl rfl) ?_
                    refine x_iconst (v := (-1)) rfl ki_m1 ?_
                    refine x_inv (N := m_X0_readLatest) (As := [.ref 51, .int 3, .ref 103, .int (-1)]) (b := 98) (st := []) (d' := 98) (mc := 0) (ms := 0) (host := "") 0 rfl t_X0_readLatest ⟨Or.inl q_0_132, i_X0_readLatest.1, i_X0_readLatest.2⟩ ⟨by decide, rfl⟩ (congrArg Prod.fst (F.1 98 (0, 16) rfl rfl)) rfl (by decide) rfl rfl ⟨by decide, by decide⟩ (jC.of rfl k_X0_readLatest rfl ?_)
                    show jX m_X0_readLatest 98 0 0 0 [(0, .ref 98), (1, .ref 51), (2, .int 3), (3, .ref 103), (4, .int (-1))] [] _ 0 0 _
                    refine x_iconst (v := 0) rfl ki_0 ?_
                    refine x_istore (ls' := [(5, .int 0), (0, .ref 98), (1, .ref 51), (2, .int 3), (3, .ref 103), (4, .int (-1))]) rfl rfl rfl ?_
                    refine x_iload (x := 0) rfl rfl ?_
                    refine x_bipush (v := 40) rfl kb_40 ?_
                    refine x_icge (tgt := 52) rfl rfl (br_f (by decide) ?_)
                    refine x_iload (x := 0) rfl rfl ?_
                    refine x_aloadn (x := 98) rfl rfl ?_
                    refine x_getR (b := 32) 0 0 rfl f_0_57 rfl (congrArg Prod.fst (F.1 98 (0, 16) rfl rfl)) (F.2.1 12544 32 rfl rfl) ?_
                    refine x_getR (b := 49) 1 8 rfl f_0_120 rfl (congrArg Prod.fst (F.1 32 (1, 20) rfl rfl)) (F.2.1 4104 49 rfl rfl) ?_
                    refine y_getI (v := 0) 8 3 rfl f_0_124 rfl (congrArg Prod.fst (F.1 49 (8, 4) rfl rfl)) (F.2.2.1 6275 0 rfl rfl) ?_
                    refine x_icge (tgt := 52) rfl rfl (br_t (by decide) ?_)
                    refine x_iconst (v := 0) rfl ki_0 ?_
                    refine x_istore (ls' := [(5, .int 0), (0, .ref 98), (1, .ref 51), (2, .int 3), (3, .ref 103), (4, .int (-1))]) rfl rfl rfl ?_
                    refine x_iload (x := 0) rfl rfl ?_
                    refine x_aloadn (x := 51) rfl rfl ?_
                    refine y_getI (v := 0) 8 3 rfl f_0_124 rfl (congrArg Prod.fst (F.1 51 (8, 4) rfl rfl)) (F.2.2.1 6531 0 rfl rfl) ?_
                    refine x_icge (tgt := 161) rfl rfl (br_t (by decide) ?_)
                    refine x_vret rfl rfl ?_
                    show jX m_X0_readHouses 99 0 0 86 [(3, .int 0), (0, .ref 98), (1, .int a2), (2, .int a3)] [] _ 0 0 _
                    refine x_iconst (v := 0) rfl ki_0 ?_
                    refine x_istore (ls' := [(4, .int 0), (3, .int 0), (0, .ref 98), (1, .int a2), (2, .int a3)]) rfl rfl rfl ?_
                    refine x_iload (x := 0) rfl rfl ?_
                    refine x_iloadn (x := 0) rfl rfl ?_
                    refine x_icge (tgt := 172) rfl rfl (br_t (by decide) ?_)
                    refine x_vret rfl rfl ?_
                    show jX m_X11_house 100 0 0 52 [(0, .ref 31), (1, .int a1), (2, .int a2), (3, .int a3), (4, .int a4)] [] _ 0 0 _
                    refine x_iload (x := a4) rfl rfl ?_
                    refine x_ifne (tgt := 69) rfl rfl (ti_ne (show (a4 : Int32).toInt = a4.toInt from rfl) (show (0 : Int32).toInt = 0 by decide) ⟨fun c13 => ?_, fun c13 => ?_⟩)
                    ·
                      refine x_aloadn (x := 31) rfl rfl ?_
                      refine x_getR (b := 98) 11 7 rfl f_11_66 rfl (congrArg Prod.fst (F.1 31 (11, 13) rfl rfl)) (F.2.1 3975 98 rfl rfl) ?_
                      refine x_getR (b := 103) 0 6 rfl f_11_430 rfl (congrArg Prod.fst (F.1 98 (0, 16) rfl rfl)) (F.2.1 12550 103 rfl rfl) ?_
                      refine x_iloadn (x := a1) rfl rfl ?_
                      refine y_iald (v := 0) (N := 40) a1.toNatClampNeg rfl (F.1 103 (100, 40) rfl rfl) (vpi (by omega)) rfl (F.2.2.2.1 103 rfl rfl _).1 ?_
                      refine x_iret rfl rfl ?_
                      exact jqe (show sp_house a1 a2 a3 a4 = 0 by unfold sp_house; (repeat' split) <;> first | rfl | (exfalso; omega)) (hQ _ (by repeat (first | exact FM | refine jFb_si rfl ?_ | refine jFb_sl rfl ?_ | refine jFb_ci rfl ?_ | refine jFb_cl rfl ?_ | refine jFb_sr rfl ?_)) (by repeat (first | exact O | refine jOl_si rfl ?_ | refine jOl_sl rfl ?_ | refine jOl_ci rfl ?_ | refine jOl_cl rfl ?_ | refine jOl_sr rfl ?_)))
                    ·
                      refine x_aloadn (x := 31) rfl rfl ?_
                      refine x_getR (b := 98) 11 7 rfl f_11_66 rfl (congrArg Prod.fst (F.1 31 (11, 13) rfl rfl)) (F.2.1 3975 98 rfl rfl) ?_
                      refine x_getR (b := 102) 0 5 rfl f_11_427 rfl (congrArg Prod.fst (F.1 98 (0, 16) rfl rfl)) (F.2.1 12549 102 rfl rfl) ?_
                      refine x_iloadn (x := a1) rfl rfl ?_
                      refine y_iald (v := 0) (N := 40) a1.toNatClampNeg rfl (F.1 102 (100, 40) rfl rfl) (vpi (by omega)) rfl (F.2.2.2.1 102 rfl rfl _).1 ?_
                      refine x_goto (tgt := 78) rfl rfl ?_
                      refine x_iret rfl rfl ?_
                      exact jqe (show sp_house a1 a2 a3 a4 = 0 by unfold sp_house; (repeat' split) <;> first | rfl | (exfalso; omega)) (hQ _ (by repeat (first | exact FM | refine jFb_si rfl ?_ | refine jFb_sl rfl ?_ | refine jFb_ci rfl ?_ | refine jFb_cl rfl ?_ | refine jFb_sr rfl ?_)) (by repeat (first | exact O | refine jOl_si rfl ?_ | refine jOl_sl rfl ?_ | refine jOl_ci rfl ?_ | refine jOl_cl rfl ?_ | refine jOl_sr rfl ?_)))
                  ·
                    refine x_aloadn (x := 105) rfl rfl ?_
                    refine x_iconst (v := 1) rfl ki_1 ?_
                    refine y_iald (v := 0) (N := 3) 1 rfl (F.1 105 (100, 3) rfl rfl) (jinb_of (by decide)) (by decide) (F.2.2.2.1 105 rfl rfl 1).1 ?_
                    refine x_iloadn (x := a3) rfl rfl ?_
                    refine x_icne (tgt := 33) rfl rfl (ti_ne (show (0 : Int32).toInt = 0 by decide) (show (a3 : Int32).toInt = a3.toInt from rfl) (bn_f c8 ?_))
                    refine x_aloadn (x := 105) rfl rfl ?_
                    refine x_iconst (v := 2) rfl ki_2 ?_
                    refine y_iald (v := 0) (N := 3) 2 rfl (F.1 105 (100, 3) rfl rfl) (jinb_of (by decide)) (by decide) (F.2.2.2.1 105 rfl rfl 2).1 ?_
                    refine x_iloadn (x := 1) rfl rfl ?_
                    refine x_icne (tgt := 33) rfl rfl (bn_t (by decide) ?_)
                    refine x_iconst (v := 0) rfl ki_0 ?_
                    refine x_istore (ls' := [(4, .int 0), (0, .ref 105), (1, .int a2), (2, .int a3), (3, .int 1)]) rfl rfl rfl ?_
                    refine x_aloadn (x := 105) rfl rfl ?_
                    refine x_iconst (v := 0) rfl ki_0 ?_
                    refine x_iloadn (x := a2) rfl rfl ?_
                    refine y_iast (N := 3) 0 rfl (F.1 105 (100, 3) rfl rfl) rfl (jinb_of (by decide)) (by decide) ?_
                    refine x_aloadn (x := 105) rfl rfl ?_
                    refine x_iconst (v := 1) rfl ki_1 ?_
                    refine x_iloadn (x := a3) rfl rfl ?_
                    refine y_iast (N := 3) 1 rfl (F.1 105 (100, 3) rfl rfl) rfl (jinb_of (by decide)) (by decide) ?_
                    refine x_aloadn (x := 105) rfl rfl ?_
                    refine x_iconst (v := 2) rfl ki_2 ?_
                    refine x_iloadn (x := 1) rfl rfl ?_
                    refine y_iast (N := 3) 2 rfl (F.1 105 (100, 3) rfl rfl) rfl (jinb_of (by decide)) (by decide) ?_
                    refine x_iload (x := 0) rfl rfl ?_
                    refine x_zret rfl rfl (by first | decide | exact jp_01 _) ?_
                    show jX m_X0_readHouses 99 0 0 32 [(0, .ref 98), (1, .int a2), (2, .int a3)] [.int 0] _ 0 0 _
                    refine x_ifeq (tgt := 36) rfl rfl (br_t (by decide) ?_)
                    refine x_bipush (v := 40) rfl kb_40 ?_
                    refine x_aloadn (x := 98) rfl rfl ?_
                    refine x_getR (b := 32) 0 0 rfl f_0_57 rfl (congrArg Prod.fst (F.1 98 (0, 16) rfl rfl)) (F.2.1 12544 32 rfl rfl) ?_
                    refine x_getR (b := 49) 1 8 rfl f_0_120 rfl (congrArg Prod.fst (F.1 32 (1, 20) rfl rfl)) (F.2.1 4104 49 rfl rfl) ?_
                    refine y_getI (v := 0) 8 3 rfl f_0_124 rfl (congrArg Prod.fst (F.1 49 (8, 4) rfl rfl)) (F.2.2.1 6275 0 rfl rfl) ?_
                    refine x_inst (N := m_J9_min_7cf53) (As := [.int 40, .int 0]) (st := []) (d' := 98) (mc := 0) (ms := 0) (host := "") rfl t_J9_min_7cf53 ⟨Or.inl q_0_88, s_J9_min_7cf53⟩ rfl (by decide) rfl rfl ⟨by decide, by decide⟩ (jC.of rfl k_J9_min_7cf53 rfl ?_)
                    show jX m_J9_min_7cf53 98 0 0 0 [(0, .int 40), (1, .int 0)] [] _ 0 0 _
                    refine x_iloadn (x := 40) rfl rfl ?_
                    refine x_iloadn (x := 0) rfl rfl ?_
                    refine x_icgt (tgt := 9) rfl rfl (br_t (by decide) ?_)
                    refine x_iloadn (x := 0) rfl rfl ?_
                    refine x_iret rfl rfl ?_
                    show jX m_X0_readHouses 99 0 0 51 [(0, .ref 98), (1, .int a2), (2, .int a3)] [.int 0] _ 0 0 _
                    refine x_istoren (ls' := [(3, .int 0), (0, .ref 98), (1, .int a2), (2, .int a3)]) rfl rfl rfl ?_
                    refine x_aloadn (x := 98) rfl rfl ?_
                    refine x_aloadn (x := 98) rfl rfl ?_
                    refine x_getR (b := 32) 0 0 rfl f_0_57 rfl (congrArg Prod.fst (F.1 98 (0, 16) rfl rfl)) (F.2.1 12544 32 rfl rfl) ?_
                    refine x_getR (b := 47) 1 7 rfl f_0_129 rfl (congrArg Prod.fst (F.1 32 (1, 20) rfl rfl)) (F.2.1 4103 47 rfl rfl) ?_
                    refine x_iconst (v := 3) rfl ki_3 ?_
                    refine x_aloadn (x := 98) rfl rfl ?_
                    refine x_getR (b := 102) 0 5 rfl f_0_21 rfl (congrArg Prod.fst (F.1 98 (0, 16) rfl rfl)) (F.2.1 12549 102 rfl rfl) ?_
                    refine x_iconst (v := 0) rfl ki_0 ?_
                    refine x_inv (N := m_X0_readLatest) (As := [.ref 47, .int 3, .ref 102, .int 0]) (b := 98) (st := []) (d' := 98) (mc := 0) (ms := 0) (host := "") 0 rfl t_X0_readLatest ⟨Or.inl q_0_132, i_X0_readLatest.1, i_X0_readLatest.2⟩ ⟨by decide, rfl⟩ (congrArg Prod.fst (F.1 98 (0, 16) rfl rfl)) rfl (by decide) rfl rfl ⟨by decide, by decide⟩ (jC.of rfl k_X0_readLatest rfl ?_)
                    show jX m_X0_readLatest 98 0 0 0 [(0, .ref 98), (1, .ref 47), (2, .int 3), (3, .ref 102), (4, .int 0)] [] _ 0 0 _
                    refine x_iconst (v := 0) rfl ki_0 ?_
                    refine x_istore (ls' := [(5, .int 0), (0, .ref 98), (1, .ref 47), (2, .int 3), (3, .ref 102), (4, .int 0)]) rfl rfl rfl ?_
                    refine x_iload (x := 0) rfl rfl ?_
                    refine x_bipush (v := 40) rfl kb_40 ?_
                    refine x_icge (tgt := 52) rfl rfl (br_f (by decide) ?_)
                    refine x_iload (x := 0) rfl rfl ?_
                    refine x_aloadn (x := 98) rfl rfl ?_
                    refine x_getR (b := 32) 0 0 rfl f_0_57 rfl (congrArg Prod.fst (F.1 98 (0, 16) rfl rfl)) (F.2.1 12544 32 rfl rfl) ?_
                    refine x_getR (b := 49) 1 8 rfl f_0_120 rfl (congrArg Prod.fst (F.1 32 (1, 20) rfl rfl)) (F.2.1 4104 49 rfl rfl) ?_
                    refine y_getI (v := 0) 8 3 rfl f_0_124 rfl (congrArg Prod.fst (F.1 49 (8, 4) rfl rfl)) (F.2.2.1 6275 0 rfl rfl) ?_
                    refine x_icge (tgt := 52) rfl rfl (br_t (by decide) ?_)
                    refine x_iconst (v := 0) rfl ki_0 ?_
                    refine x_istore (ls' := [(5, .int 0), (0, .ref 98), (1, .ref 47), (2, .int 3), (3, .ref 102), (4, .int 0)]) rfl rfl rfl ?_
                    refine x_iload (x := 0) rfl rfl ?_
                    refine x_aloadn (x := 47) rfl rfl ?_
                    refine y_getI (v := 0) 8 3 rfl f_0_124 rfl (congrArg Prod.fst (F.1 47 (8, 4) rfl rfl)) (F.2.2.1 6019 0 rfl rfl) ?_
                    refine x_icge (tgt := 161) rfl rfl (br_t (by decide) ?_)
                    refine x_vret rfl rfl ?_
                    show jX m_X0_readHouses 99 0 0 69 [(3, .int 0), (0, .ref 98), (1, .int a2), (2, .int a3)] [] _ 0 0 _
                    refine x_aloadn (x := 98) rfl rfl ?_
                    refine x_aloadn (x := 98) rfl rfl ?_
                    refine x_getR (b := 32) 0 0 rfl f_0_57 rfl (congrArg Prod.fst (F.1 98 (0, 16) rfl rfl)) (F.2.1 12544 32 rfl rfl) ?_
                    refine x_getR (b := 51) 1 9 rfl f_0_136 rfl (congrArg Prod.fst (F.1 32 (1, 20) rfl rfl)) (F.2.1 4105 51 rfl rfl) ?_
                    refine x_iconst (v := 3) rfl ki_3 ?_
                    refine x_aloadn (x := 98) rfl rfl ?_
                    refine x_getR (b := 103) 0 6 rfl f_0_24 rfl (congrArg Prod.fst (F.1 98 (0, 16) rfl rfl)) (F.2.1 12550 103 rfl rfl) ?_
                    refine x_iconst (v := (-1)) rfl ki_m1 ?_
                    refine x_inv (N := m_X0_readLatest) (As := [.ref 51, .int 3, .ref 103, .int (-1)]) (b := 98) (st := []) (d' := 98) (mc := 0) (ms := 0) (host := "") 0 rfl t_X0_readLatest ⟨Or.inl q_0_132, i_X0_readLatest.1, i_X0_readLatest.2⟩ ⟨by decide, rfl⟩ (congrArg Prod.fst (F.1 98 (0, 16) rfl rfl)) rfl (by decide) rfl rfl ⟨by decide, by decide⟩ (jC.of rfl k_X0_readLatest rfl ?_)
                    show jX m_X0_readLatest 98 0 0 0 [(0, .ref 98), (1, .ref 51), (2, .int 3), (3, .ref 103), (4, .int (-1))] [] _ 0 0 _
                    refine x_iconst (v := 0) rfl ki_0 ?_
                    refine x_istore (ls' := [(5, .int 0), (0, .ref 98), (1, .ref 51), (2, .int 3), (3, .ref 103), (4, .int (-1))]) rfl rfl rfl ?_
                    refine x_iload (x := 0) rfl rfl ?_
                    refine x_bipush (v := 40) rfl kb_40 ?_
                    refine x_icge (tgt := 52) rfl rfl (br_f (by decide) ?_)
                    refine x_iload (x := 0) rfl rfl ?_
                    refine x_aloadn (x := 98) rfl rfl ?_
                    refine x_getR (b := 32) 0 0 rfl f_0_57 rfl (congrArg Prod.fst (F.1 98 (0, 16) rfl rfl)) (F.2.1 12544 32 rfl rfl) ?_
                    refine x_getR (b := 49) 1 8 rfl f_0_120 rfl (congrArg Prod.fst (F.1 32 (1, 20) rfl rfl)) (F.2.1 4104 49 rfl rfl) ?_
                    refine y_getI (v := 0) 8 3 rfl f_0_124 rfl (congrArg Prod.fst (F.1 49 (8, 4) rfl rfl)) (F.2.2.1 6275 0 rfl rfl) ?_
                    refine x_icge (tgt := 52) rfl rfl (br_t (by decide) ?_)
                    refine x_iconst (v := 0) rfl ki_0 ?_
                    refine x_istore (ls' := [(5, .int 0), (0, .ref 98), (1, .ref 51), (2, .int 3), (3, .ref 103), (4, .int (-1))]) rfl rfl rfl ?_
                    refine x_iload (x := 0) rfl rfl ?_
                    refine x_aloadn (x := 51) rfl rfl ?_
                    refine y_getI (v := 0) 8 3 rfl f_0_124 rfl (congrArg Prod.fst (F.1 51 (8, 4) rfl rfl)) (F.2.2.1 6531 0 rfl rfl) ?_
                    refine x_icge (tgt := 161) rfl rfl (br_t (by decide) ?_)
                    refine x_vret rfl rfl ?_
                    show jX m_X0_readHouses 99 0 0 86 [(3, .int 0), (0, .ref 98), (1, .int a2), (2, .int a3)] [] _ 0 0 _
                    refine x_iconst (v := 0) rfl ki_0 ?_
                    refine x_istore (ls' := [(4, .int 0), (3, .int 0), (0, .ref 98), (1, .int a2), (2, .int a3)]) rfl rfl rfl ?_
                    refine x_iload (x := 0) rfl rfl ?_
                    refine x_iloadn (x := 0) rfl rfl ?_
                    refine x_icge (tgt := 172) rfl rfl (br_t (by decide) ?_)
                    refine x_vret rfl rfl ?_
                    show jX m_X11_house 100 0 0 52 [(0, .ref 31), (1, .int a1), (2, .int a2), (3, .int a3), (4, .int a4)] [] _ 0 0 _
                    refine x_iload (x := a4) rfl rfl ?_
                    refine x_ifne (tgt := 69) rfl rfl (ti_ne (show (a4 : Int32).toInt = a4.toInt from rfl) (show (0 : Int32).toInt = 0 by decide) ⟨fun c14 => ?_, fun c14 => ?_⟩)
                    ·
                      refine x_aloadn (x := 31) rfl rfl ?_
                      refine x_getR (b := 98) 11 7 rfl f_11_66 rfl (congrArg Prod.fst (F.1 31 (11, 13) rfl rfl)) (F.2.1 3975 98 rfl rfl) ?_
                      refine x_getR (b := 103) 0 6 rfl f_11_430 rfl (congrArg Prod.fst (F.1 98 (0, 16) rfl rfl)) (F.2.1 12550 103 rfl rfl) ?_
                      refine x_iloadn (x := a1) rfl rfl ?_
                      refine y_iald (v := 0) (N := 40) a1.toNatClampNeg rfl (F.1 103 (100, 40) rfl rfl) (vpi (by omega)) rfl (F.2.2.2.1 103 rfl rfl _).1 ?_
                      refine x_iret rfl rfl ?_
                      exact jqe (show sp_house a1 a2 a3 a4 = 0 by unfold sp_house; (repeat' split) <;> first | rfl | (exfalso; omega)) (hQ _ (by repeat (first | exact FM | refine jFb_si rfl ?_ | refine jFb_sl rfl ?_ | refine jFb_ci rfl ?_ | refine jFb_cl rfl ?_ | refine jFb_sr rfl ?_)) (by repeat (first | exact O | refine jOl_si rfl ?_ | refine jOl_sl rfl ?_ | refine jOl_ci rfl ?_ | refine jOl_cl rfl ?_ | refine jOl_sr rfl ?_)))
                    ·
                      refine x_aloadn (x := 31) rfl rfl ?_
                      refine x_getR (b := 98) 11 7 rfl f_11_66 rfl (congrArg Prod.fst (F.1 31 (11, 13) rfl rfl)) (F.2.1 3975 98 rfl rfl) ?_
                      refine x_getR (b := 102) 0 5 rfl f_11_427 rfl (congrArg Prod.fst (F.1 98 (0, 16) rfl rfl)) (F.2.1 12549 102 rfl rfl) ?_
                      refine x_iloadn (x := a1) rfl rfl ?_
                      refine y_iald (v := 0) (N := 40) a1.toNatClampNeg rfl (F.1 102 (100, 40) rfl rfl) (vpi (by omega)) rfl (F.2.2.2.1 102 rfl rfl _).1 ?_
                      refine x_goto (tgt := 78) rfl rfl ?_
                      refine x_iret rfl rfl ?_
                      exact jqe (show sp_house a1 a2 a3 a4 = 0 by unfold sp_house; (repeat' split) <;> first | rfl | (exfalso; omega)) (hQ _ (by repeat (first | exact FM | refine jFb_si rfl ?_ | refine jFb_sl rfl ?_ | refine jFb_ci rfl ?_ | refine jFb_cl rfl ?_ | refine jFb_sr rfl ?_)) (by repeat (first | exact O | refine jOl_si rfl ?_ | refine jOl_sl rfl ?_ | refine jOl_ci rfl ?_ | refine jOl_cl rfl ?_ | refine jOl_sr rfl ?_)))
              ·
                refine x_iconst (v := (-1)) rfl ki_m1 ?_
                refine x_iret rfl rfl ?_
                exact jqe (show sp_house a1 a2 a3 a4 = (-1) by unfold sp_house; (repeat' split) <;> first | rfl | (exfalso; omega)) (hQ _ (by repeat (first | exact FM | refine jFb_si rfl ?_ | refine jFb_sl rfl ?_ | refine jFb_ci rfl ?_ | refine jFb_cl rfl ?_ | refine jFb_sr rfl ?_)) (by repeat (first | exact O | refine jOl_si rfl ?_ | refine jOl_sl rfl ?_ | refine jOl_ci rfl ?_ | refine jOl_cl rfl ?_ | refine jOl_sr rfl ?_)))
set_option maxRecDepth 100000 in
set_option maxHeartbeats 40000000 in
theorem pm_house (a1 a2 a3 a4 : Int32) {xs : Nat → Int32} {h : jH} {Q : Option Value → jH → Prop} (F : jFb 125 h) (O : jOl 7 xs h) (hQ : ∀ h', jOl 7 xs h' → Q (some (.int (sp_house a1 a2 a3 a4))) h') : jC m_X12_house 100 0 0 [.ref 125, .int a1, .int a2, .int a3, .int a4] h Q := by
  refine jC.of rfl k_X12_house rfl ?_
  show jX m_X12_house 100 0 0 0 [(0, .ref 125), (1, .int a1), (2, .int a2), (3, .int a3), (4, .int a4)] [] _ 0 0 _
  refine x_aloadn (x := 125) rfl rfl ?_
  refine x_iconst (v := 0) rfl ki_0 ?_
  refine x_putI 12 0 rfl f_12_180 rfl (jfin_no TX12 RX12 92 rfl rfl) (congrArg Prod.fst (F.1 125 (12, 92) rfl rfl)) rfl ?_
  refine x_aloadn (x := 125) rfl rfl ?_
  refine x_iloadn (x := a1) rfl rfl ?_
  refine x_inv (N := m_X12_isHolding) (As := [.int a1]) (b := 125) (st := []) (d' := 99) (mc := 0) (ms := 0) (host := "") 12 rfl t_X12_isHolding ⟨Or.inl q_12_811, i_X12_isHolding.1, i_X12_isHolding.2⟩ ⟨by decide, rfl⟩ (congrArg Prod.fst (F.1 125 (12, 92) rfl rfl)) rfl (by decide) rfl rfl ⟨by decide, by decide⟩ (jC.of rfl k_X12_isHolding rfl ?_)
  show jX m_X12_isHolding 99 0 0 0 [(0, .ref 125), (1, .int a1)] [] _ 0 0 _
  refine x_iloadn (x := a1) rfl rfl ?_
  refine x_i2l rfl ?_
  refine x_lconst (v := 0) rfl kl_0 ?_
  refine x_aloadn (x := 125) rfl rfl ?_
  refine x_getR (b := 126) 12 2 rfl f_12_8 rfl (congrArg Prod.fst (F.1 125 (12, 92) rfl rfl)) (F.2.1 16002 126 rfl rfl) ?_
  refine x_bipush (v := 7) rfl kb_7 ?_
  refine y_iald (v := 0) (N := 50660) 7 rfl (F.1 126 (100, 50660) rfl rfl) (jinb_of (by decide)) (by decide) (F.2.2.2.1 126 rfl rfl 7).1 ?_
  refine y_i2l (v := 0) rfl (by decide) ?_
  refine x_lconst (v := 1) rfl kl_1 ?_
  refine y_lsub (v := (-1)) rfl (by decide) ?_
  refine x_inst (N := m_X12_in) (As := [.long (a1.toInt64), .long 0, .long (-1)]) (st := []) (d' := 98) (mc := 0) (ms := 0) (host := "") rfl t_X12_in ⟨Or.inl q_12_188, s_X12_in⟩ rfl (by decide) rfl rfl ⟨by decide, by decide⟩ (c_X12_in (jt_l _) (by decide) (by decide) ?_)
  show jX m_X12_isHolding 99 0 0 16 [(0, .ref 125), (1, .int a1)] [.int (jp (0 ≤ a1.toInt ∧ a1.toInt ≤ (-1)))] _ 0 0 _
  refine x_zret rfl rfl (by first | decide | exact jp_01 _) ?_
  show jX m_X12_house 100 0 0 10 [(0, .ref 125), (1, .int a1), (2, .int a2), (3, .int a3), (4, .int a4)] [.int (jp (0 ≤ a1.toInt ∧ a1.toInt ≤ (-1)))] _ 0 0 _
  refine x_ifeq (tgt := 38) rfl rfl (jpe ⟨fun c1 => ?_, fun c1 => ?_⟩)
  ·
    refine x_iconst (v := (-1)) rfl ki_m1 ?_
    refine x_iret rfl rfl ?_
    exact jqe (show sp_house a1 a2 a3 a4 = (-1) by unfold sp_house; (repeat' split) <;> first | rfl | (exfalso; omega)) (hQ _ (by repeat (first | exact O | refine jOl_si rfl ?_ | refine jOl_sl rfl ?_ | refine jOl_ci rfl ?_ | refine jOl_cl rfl ?_ | refine jOl_sr rfl ?_)))
  ·
    refine x_iloadn (x := a2) rfl rfl ?_
    refine x_inst (N := m_X12_isDay) (As := [.int a2]) (st := []) (d' := 99) (mc := 0) (ms := 0) (host := "") rfl t_X12_isDay ⟨Or.inl q_12_273, s_X12_isDay⟩ rfl (by decide) rfl rfl ⟨by decide, by decide⟩ (c_X12_isDay (x := a2) ?_)
    show jX m_X12_house 100 0 0 17 [(0, .ref 125), (1, .int a1), (2, .int a2), (3, .int a3), (4, .int a4)] [.int (jp (0 ≤ a2.toInt ∧ a2.toInt ≤ 146399))] _ 0 0 _
    refine x_ifeq (tgt := 38) rfl rfl (jpe ⟨fun c2 => ?_, fun c2 => ?_⟩)
    ·
      refine x_iconst (v := (-1)) rfl ki_m1 ?_
      refine x_iret rfl rfl ?_
      exact jqe (show sp_house a1 a2 a3 a4 = (-1) by unfold sp_house; (repeat' split) <;> first | rfl | (exfalso; omega)) (hQ _ (by repeat (first | exact O | refine jOl_si rfl ?_ | refine jOl_sl rfl ?_ | refine jOl_ci rfl ?_ | refine jOl_cl rfl ?_ | refine jOl_sr rfl ?_)))
    ·
      refine x_iloadn (x := a3) rfl rfl ?_
      refine x_inst (N := m_X12_isDay) (As := [.int a3]) (st := []) (d' := 99) (mc := 0) (ms := 0) (host := "") rfl t_X12_isDay ⟨Or.inl q_12_273, s_X12_isDay⟩ rfl (by decide) rfl rfl ⟨by decide, by decide⟩ (c_X12_isDay (x := a3) ?_)
      show jX m_X12_house 100 0 0 24 [(0, .ref 125), (1, .int a1), (2, .int a2), (3, .int a3), (4, .int a4)] [.int (jp (0 ≤ a3.toInt ∧ a3.toInt ≤ 146399))] _ 0 0 _
      refine x_ifeq (tgt := 38) rfl rfl (jpe ⟨fun c3 => ?_, fun c3 => ?_⟩)
      ·
        refine x_iconst (v := (-1)) rfl ki_m1 ?_
        refine x_iret rfl rfl ?_
        exact jqe (show sp_house a1 a2 a3 a4 = (-1) by unfold sp_house; (repeat' split) <;> first | rfl | (exfalso; omega)) (hQ _ (by repeat (first | exact O | refine jOl_si rfl ?_ | refine jOl_sl rfl ?_ | refine jOl_ci rfl ?_ | refine jOl_cl rfl ?_ | refine jOl_sr rfl ?_)))
      ·
        refine x_iload (x := a4) rfl rfl ?_
        refine x_i2l rfl ?_
        refine x_lconst (v := 0) rfl kl_0 ?_
        refine x_lconst (v := 1) rfl kl_1 ?_
        refine x_inst (N := m_X12_in) (As := [.long (a4.toInt64), .long 0, .long 1]) (st := []) (d' := 99) (mc := 0) (ms := 0) (host := "") rfl t_X12_in ⟨Or.inl q_12_188, s_X12_in⟩ rfl (by decide) rfl rfl ⟨by decide, by decide⟩ (c_X12_in (jt_l _) (by decide) (by decide) ?_)
        show jX m_X12_house 100 0 0 35 [(0, .ref 125), (1, .int a1), (2, .int a2), (3, .int a3), (4, .int a4)] [.int (jp (0 ≤ a4.toInt ∧ a4.toInt ≤ 1))] _ 0 0 _
        refine x_ifne (tgt := 40) rfl rfl (jpn ⟨fun c4 => ?_, fun c4 => ?_⟩)
        ·
          refine x_aloadn (x := 125) rfl rfl ?_
          refine x_iloadn (x := a3) rfl rfl ?_
          refine x_inv (N := m_X12_find) (As := [.int a3]) (b := 125) (st := []) (d' := 99) (mc := 0) (ms := 0) (host := "") 12 rfl t_X12_find ⟨Or.inl q_12_393, i_X12_find.1, i_X12_find.2⟩ ⟨by decide, rfl⟩ (congrArg Prod.fst (F.1 125 (12, 92) rfl rfl)) rfl (by decide) rfl rfl ⟨by decide, by decide⟩ (jC.of rfl k_X12_find rfl ?_)
          show jX m_X12_find 99 0 0 0 [(0, .ref 125), (1, .int a3)] [] _ 0 0 _
          refine x_aloadn (x := 125) rfl rfl ?_
          refine x_iloadn (x := a3) rfl rfl ?_
          refine x_putI 12 28 rfl f_12_377 rfl (jfin_no TX12 RX12 92 rfl rfl) (congrArg Prod.fst (F.1 125 (12, 92) rfl rfl)) rfl ?_
          refine x_aloadn (x := 125) rfl rfl ?_
          refine x_iconst (v := 0) rfl ki_0 ?_
          refine x_putI 12 31 rfl f_12_380 rfl (jfin_no TX12 RX12 92 rfl rfl) (congrArg Prod.fst (F.1 125 (12, 92) rfl rfl)) rfl ?_
          refine x_aloadn (x := 125) rfl rfl ?_
          refine x_iconst (v := (-1)) rfl ki_m1 ?_
          refine x_putI 12 57 rfl f_12_111 rfl (jfin_no TX12 RX12 92 rfl rfl) (congrArg Prod.fst (F.1 125 (12, 92) rfl rfl)) rfl ?_
          refine x_iconst (v := 0) rfl ki_0 ?_
          refine x_istoren (ls' := [(2, .int 0), (0, .ref 125), (1, .int a3)]) rfl rfl rfl ?_
          refine x_iloadn (x := 0) rfl rfl ?_
          refine x_iconst (v := 3) rfl ki_3 ?_
          refine x_aloadn (x := 125) rfl rfl ?_
          refine x_getR (b := 126) 12 2 rfl f_12_8 rfl (congrArg Prod.fst (F.1 125 (12, 92) rfl rfl)) (F.2.1 16002 126 rfl rfl) ?_
          refine x_iconst (v := 0) rfl ki_0 ?_
          refine y_iald (v := 0) (N := 50660) 0 rfl (F.1 126 (100, 50660) rfl rfl) (jinb_of (by decide)) (by decide) (F.2.2.2.1 126 rfl rfl 0).1 ?_
          refine y_imul (v := 0) rfl (by decide) ?_
          refine x_icge (tgt := 65) rfl rfl (br_t (by decide) ?_)
          refine x_iconst (v := 0) rfl ki_0 ?_
          refine x_istoren (ls' := [(2, .int 0), (0, .ref 125), (1, .int a3)]) rfl rfl rfl ?_
          refine x_iloadn (x := 0) rfl rfl ?_
          refine x_aloadn (x := 125) rfl rfl ?_
          refine x_getR (b := 126) 12 2 rfl f_12_8 rfl (congrArg Prod.fst (F.1 125 (12, 92) rfl rfl)) (F.2.1 16002 126 rfl rfl) ?_
          refine x_iconst (v := 2) rfl ki_2 ?_
          refine y_iald (v := 0) (N := 50660) 2 rfl (F.1 126 (100, 50660) rfl rfl) (jinb_of (by decide)) (by decide) (F.2.2.2.1 126 rfl rfl 2).1 ?_
          refine x_icge (tgt := 227) rfl rfl (br_t (by decide) ?_)
          refine x_vret rfl rfl ?_
          show jX m_X12_house 100 0 0 45 [(0, .ref 125), (1, .int a1), (2, .int a2), (3, .int a3), (4, .int a4)] [] _ 0 0 _
          refine x_aloadn (x := 125) rfl rfl ?_
          refine x_iloadn (x := a2) rfl rfl ?_
          refine x_iconst (v := 1) rfl ki_1 ?_
          refine x_inv (N := m_X12_findHouses) (As := [.int a2, .int 1]) (b := 125) (st := []) (d' := 99) (mc := 0) (ms := 0) (host := "") 12 rfl t_X12_findHouses ⟨Or.inl q_12_694, i_X12_findHouses.1, i_X12_findHouses.2⟩ ⟨by decide, rfl⟩ (congrArg Prod.fst (F.1 125 (12, 92) rfl rfl)) rfl (by decide) rfl rfl ⟨by decide, by decide⟩ (jC.of rfl k_X12_findHouses rfl ?_)
          show jX m_X12_findHouses 99 0 0 0 [(0, .ref 125), (1, .int a2), (2, .int 1)] [] _ 0 0 _
          refine x_aloadn (x := 125) rfl rfl ?_
          refine x_getR (b := 126) 12 2 rfl f_12_8 rfl (congrArg Prod.fst (F.1 125 (12, 92) rfl rfl)) (F.2.1 16002 126 rfl rfl) ?_
          refine x_bipush (v := 7) rfl kb_7 ?_
          refine y_iald (v := 0) (N := 50660) 7 rfl (F.1 126 (100, 50660) rfl rfl) (jinb_of (by decide)) (by decide) (F.2.2.2.1 126 rfl rfl 7).1 ?_
          refine x_istoren (ls' := [(3, .int 0), (0, .ref 125), (1, .int a2), (2, .int 1)]) rfl rfl rfl ?_
          refine x_iconst (v := 0) rfl ki_0 ?_
          refine x_istore (ls' := [(4, .int 0), (3, .int 0), (0, .ref 125), (1, .int a2), (2, .int 1)]) rfl rfl rfl ?_
          refine x_iload (x := 0) rfl rfl ?_
          refine x_iloadn (x := 0) rfl rfl ?_
          refine x_icge (tgt := 72) rfl rfl (br_t (by decide) ?_)
          refine x_iconst (v := 0) rfl ki_0 ?_
          refine x_istore (ls' := [(4, .int 0), (3, .int 0), (0, .ref 125), (1, .int a2), (2, .int 1)]) rfl rfl rfl ?_
          refine x_iload (x := 0) rfl rfl ?_
          refine x_iloadn (x := 0) rfl rfl ?_
          refine x_icge (tgt := 323) rfl rfl (br_t (by decide) ?_)
          refine x_vret rfl rfl ?_
          show jX m_X12_house 100 0 0 51 [(0, .ref 125), (1, .int a1), (2, .int a2), (3, .int a3), (4, .int a4)] [] _ 0 0 _
          refine x_iload (x := a4) rfl rfl ?_
          refine x_ifne (tgt := 68) rfl rfl (ti_ne (show (a4 : Int32).toInt = a4.toInt from rfl) (show (0 : Int32).toInt = 0 by decide) ⟨fun c5 => ?_, fun c5 => ?_⟩)
          ·
            refine x_aloadn (x := 125) rfl rfl ?_
            refine x_getR (b := 163) 12 78 rfl f_12_147 rfl (congrArg Prod.fst (F.1 125 (12, 92) rfl rfl)) (F.2.1 16078 163 rfl rfl) ?_
            refine x_bipush (v := 40) rfl kb_40 ?_
            refine x_iloadn (x := a1) rfl rfl ?_
            refine x_iadd rfl ?_
            refine y_iald (v := 0) (N := 80) (40 + a1).toNatClampNeg rfl (F.1 163 (100, 80) rfl rfl) (vpi (by omega)) rfl (F.2.2.2.1 163 rfl rfl _).1 ?_
            refine x_iret rfl rfl ?_
            exact jqe (show sp_house a1 a2 a3 a4 = 0 by unfold sp_house; (repeat' split) <;> first | rfl | (exfalso; omega)) (hQ _ (by repeat (first | exact O | refine jOl_si rfl ?_ | refine jOl_sl rfl ?_ | refine jOl_ci rfl ?_ | refine jOl_cl rfl ?_ | refine jOl_sr rfl ?_)))
          ·
            refine x_aloadn (x := 125) rfl rfl ?_
            refine x_getR (b := 162) 12 77 rfl f_12_144 rfl (congrArg Prod.fst (F.1 125 (12, 92) rfl rfl)) (F.2.1 16077 162 rfl rfl) ?_
            refine x_bipush (v := 40) rfl kb_40 ?_
            refine x_iloadn (x := a1) rfl rfl ?_
            refine x_iadd rfl ?_
            refine y_iald (v := 0) (N := 80) (40 + a1).toNatClampNeg rfl (F.1 162 (100, 80) rfl rfl) (vpi (by omega)) rfl (F.2.2.2.1 162 rfl rfl _).1 ?_
            refine x_goto (tgt := 77) rfl rfl ?_
            refine x_iret rfl rfl ?_
            exact jqe (show sp_house a1 a2 a3 a4 = 0 by unfold sp_house; (repeat' split) <;> first | rfl | (exfalso; omega)) (hQ _ (by repeat (first | exact O | refine jOl_si rfl ?_ | refine jOl_sl rfl ?_ | refine jOl_ci rfl ?_ | refine jOl_cl rfl ?_ | refine jOl_sr rfl ?_)))
        ·
          refine x_iconst (v := (-1)) rfl ki_m1 ?_
          refine x_iret rfl rfl ?_
          exact jqe (show sp_house a1 a2 a3 a4 = (-1) by unfold sp_house; (repeat' split) <;> first | rfl | (exfalso; omega)) (hQ _ (by repeat (first | exact O | refine jOl_si rfl ?_ | refine jOl_sl rfl ?_ | refine jOl_ci rfl ?_ | refine jOl_cl rfl ?_ | refine jOl_sr rfl ?_)))
def sp_levy (a1 a2 a3 a4 : Int32) : Int32 := if (0 ≤ a1.toInt ∧ a1.toInt ≤ 2) ∧ (0 ≤ a2.toInt ∧ a2.toInt ≤ 399) ∧ (0 ≤ a3.toInt ∧ a3.toInt ≤ 1000000) ∧ (0 ≤ a4.toInt ∧ a4.toInt ≤ 146399) then 0 else (-1)
set_option maxRecDepth 100000 in
set_option maxHeartbeats 40000000 in
theorem px_levy (a1 a2 a3 a4 : Int32) {xs : Nat → Int32} {h : jH} {Q : Option Value → jH → Prop} (F : jFb 31 h) (O : jOl 7 xs h) (hQ : ∀ h', jFb 125 h' → jOl 7 xs h' → Q (some (.int (sp_levy a1 a2 a3 a4))) h') : jC m_X11_levy 100 0 0 [.ref 31, .int a1, .int a2, .int a3, .int a4] h Q := by
  have FM := jFb_up 125 rfl F
  refine jC.of rfl k_X11_levy rfl ?_
  show jX m_X11_levy 100 0 0 0 [(0, .ref 31), (1, .int a1), (2, .int a2), (3, .int a3), (4, .int a4)] [] _ 0 0 _
  refine x_iloadn (x := a1) rfl rfl ?_
  refine x_iflt (tgt := 35) rfl rfl (ti_lt (show (a1 : Int32).toInt = a1.toInt from rfl) (show (0 : Int32).toInt = 0 by decide) ⟨fun c1 => ?_, fun c1 => ?_⟩)
  ·
    refine x_aloadn (x := 31) rfl rfl ?_
    refine x_iconst (v := (-1)) rfl ki_m1 ?_
    refine x_inv (N := m_X11_refuse) (As := [.int (-1)]) (b := 31) (st := []) (d' := 99) (mc := 0) (ms := 0) (host := "") 11 rfl t_X11_refuse ⟨Or.inl q_11_206, i_X11_refuse.1, i_X11_refuse.2⟩ ⟨by decide, rfl⟩ (congrArg Prod.fst (F.1 31 (11, 13) rfl rfl)) rfl (by decide) rfl rfl ⟨by decide, by decide⟩ (jC.of rfl k_X11_refuse rfl ?_)
    show jX m_X11_refuse 99 0 0 0 [(0, .ref 31), (1, .int (-1))] [] _ 0 0 _
    refine x_aloadn (x := 31) rfl rfl ?_
    refine x_iloadn (x := (-1)) rfl rfl ?_
    refine x_putI 11 12 rfl f_11_94 rfl (jfin_no TX11 RX11 13 rfl rfl) (congrArg Prod.fst (F.1 31 (11, 13) rfl rfl)) rfl ?_
    refine x_iloadn (x := (-1)) rfl rfl ?_
    refine x_iret rfl rfl ?_
    show jX m_X11_levy 100 0 0 40 [(0, .ref 31), (1, .int a1), (2, .int a2), (3, .int a3), (4, .int a4)] [.int (-1)] _ 0 0 _
    refine x_iret rfl rfl ?_
    exact jqe (show sp_levy a1 a2 a3 a4 = (-1) by unfold sp_levy; (repeat' split) <;> first | rfl | (exfalso; omega)) (hQ _ (by repeat (first | exact FM | refine jFb_si rfl ?_ | refine jFb_sl rfl ?_ | refine jFb_ci rfl ?_ | refine jFb_cl rfl ?_ | refine jFb_sr rfl ?_)) (by repeat (first | exact O | refine jOl_si rfl ?_ | refine jOl_sl rfl ?_ | refine jOl_ci rfl ?_ | refine jOl_cl rfl ?_ | refine jOl_sr rfl ?_)))
  ·
    refine x_iloadn (x := a1) rfl rfl ?_
    refine x_iconst (v := 2) rfl ki_2 ?_
    refine x_icgt (tgt := 35) rfl rfl (ti_gt (show (a1 : Int32).toInt = a1.toInt from rfl) (show (2 : Int32).toInt = 2 by decide) ⟨fun c2 => ?_, fun c2 => ?_⟩)
    ·
      refine x_aloadn (x := 31) rfl rfl ?_
      refine x_iconst (v := (-1)) rfl ki_m1 ?_
      refine x_inv (N := m_X11_refuse) (As := [.int (-1)]) (b := 31) (st := []) (d' := 99) (mc := 0) (ms := 0) (host := "") 11 rfl t_X11_refuse ⟨Or.inl q_11_206, i_X11_refuse.1, i_X11_refuse.2⟩ ⟨by decide, rfl⟩ (congrArg Prod.fst (F.1 31 (11, 13) rfl rfl)) rfl (by decide) rfl rfl ⟨by decide, by decide⟩ (jC.of rfl k_X11_refuse rfl ?_)
      show jX m_X11_refuse 99 0 0 0 [(0, .ref 31), (1, .int (-1))] [] _ 0 0 _
      refine x_aloadn (x := 31) rfl rfl ?_
      refine x_iloadn (x := (-1)) rfl rfl ?_
      refine x_putI 11 12 rfl f_11_94 rfl (jfin_no TX11 RX11 13 rfl rfl) (congrArg Prod.fst (F.1 31 (11, 13) rfl rfl)) rfl ?_
      refine x_iloadn (x := (-1)) rfl rfl ?_
      refine x_iret rfl rfl ?_
      show jX m_X11_levy 100 0 0 40 [(0, .ref 31), (1, .int a1), (2, .int a2), (3, .int a3), (4, .int a4)] [.int (-1)] _ 0 0 _
      refine x_iret rfl rfl ?_
      exact jqe (show sp_levy a1 a2 a3 a4 = (-1) by unfold sp_levy; (repeat' split) <;> first | rfl | (exfalso; omega)) (hQ _ (by repeat (first | exact FM | refine jFb_si rfl ?_ | refine jFb_sl rfl ?_ | refine jFb_ci rfl ?_ | refine jFb_cl rfl ?_ | refine jFb_sr rfl ?_)) (by repeat (first | exact O | refine jOl_si rfl ?_ | refine jOl_sl rfl ?_ | refine jOl_ci rfl ?_ | refine jOl_cl rfl ?_ | refine jOl_sr rfl ?_)))
    ·
      refine x_iloadn (x := a2) rfl rfl ?_
      refine x_inst (N := m_X11_isYear) (As := [.int a2]) (st := []) (d' := 99) (mc := 0) (ms := 0) (host := "") rfl t_X11_isYear ⟨Or.inl q_11_433, s_X11_isYear⟩ rfl (by decide) rfl rfl ⟨by decide, by decide⟩ (c_X11_isYear (x := a2) ?_)
      show jX m_X11_levy 100 0 0 13 [(0, .ref 31), (1, .int a1), (2, .int a2), (3, .int a3), (4, .int a4)] [.int (jp (0 ≤ a2.toInt ∧ a2.toInt ≤ 399))] _ 0 0 _
      refine x_ifeq (tgt := 35) rfl rfl (jpe ⟨fun c3 => ?_, fun c3 => ?_⟩)
      ·
        refine x_aloadn (x := 31) rfl rfl ?_
        refine x_iconst (v := (-1)) rfl ki_m1 ?_
        refine x_inv (N := m_X11_refuse) (As := [.int (-1)]) (b := 31) (st := []) (d' := 99) (mc := 0) (ms := 0) (host := "") 11 rfl t_X11_refuse ⟨Or.inl q_11_206, i_X11_refuse.1, i_X11_refuse.2⟩ ⟨by decide, rfl⟩ (congrArg Prod.fst (F.1 31 (11, 13) rfl rfl)) rfl (by decide) rfl rfl ⟨by decide, by decide⟩ (jC.of rfl k_X11_refuse rfl ?_)
        show jX m_X11_refuse 99 0 0 0 [(0, .ref 31), (1, .int (-1))] [] _ 0 0 _
        refine x_aloadn (x := 31) rfl rfl ?_
        refine x_iloadn (x := (-1)) rfl rfl ?_
        refine x_putI 11 12 rfl f_11_94 rfl (jfin_no TX11 RX11 13 rfl rfl) (congrArg Prod.fst (F.1 31 (11, 13) rfl rfl)) rfl ?_
        refine x_iloadn (x := (-1)) rfl rfl ?_
        refine x_iret rfl rfl ?_
        show jX m_X11_levy 100 0 0 40 [(0, .ref 31), (1, .int a1), (2, .int a2), (3, .int a3), (4, .int a4)] [.int (-1)] _ 0 0 _
        refine x_iret rfl rfl ?_
        exact jqe (show sp_levy a1 a2 a3 a4 = (-1) by unfold sp_levy; (repeat' split) <;> first | rfl | (exfalso; omega)) (hQ _ (by repeat (first | exact FM | refine jFb_si rfl ?_ | refine jFb_sl rfl ?_ | refine jFb_ci rfl ?_ | refine jFb_cl rfl ?_ | refine jFb_sr rfl ?_)) (by repeat (first | exact O | refine jOl_si rfl ?_ | refine jOl_sl rfl ?_ | refine jOl_ci rfl ?_ | refine jOl_cl rfl ?_ | refine jOl_sr rfl ?_)))
      ·
        refine x_iloadn (x := a3) rfl rfl ?_
        refine x_iconst (v := 0) rfl ki_0 ?_
        refine x_ldcw (v := 1000000) rfl z_11_436 ?_
        refine x_inst (N := m_X11_isWithin) (As := [.int a3, .int 0, .int 1000000]) (st := []) (d' := 99) (mc := 0) (ms := 0) (host := "") rfl t_X11_isWithin ⟨Or.inl q_11_202, s_X11_isWithin⟩ rfl (by decide) rfl rfl ⟨by decide, by decide⟩ (c_X11_isWithin rfl (by decide) (by decide) ?_)
        show jX m_X11_levy 100 0 0 24 [(0, .ref 31), (1, .int a1), (2, .int a2), (3, .int a3), (4, .int a4)] [.int (jp (0 ≤ a3.toInt ∧ a3.toInt ≤ 1000000))] _ 0 0 _
        refine x_ifeq (tgt := 35) rfl rfl (jpe ⟨fun c4 => ?_, fun c4 => ?_⟩)
        ·
          refine x_aloadn (x := 31) rfl rfl ?_
          refine x_iconst (v := (-1)) rfl ki_m1 ?_
          refine x_inv (N := m_X11_refuse) (As := [.int (-1)]) (b := 31) (st := []) (d' := 99) (mc := 0) (ms := 0) (host := "") 11 rfl t_X11_refuse ⟨Or.inl q_11_206, i_X11_refuse.1, i_X11_refuse.2⟩ ⟨by decide, rfl⟩ (congrArg Prod.fst (F.1 31 (11, 13) rfl rfl)) rfl (by decide) rfl rfl ⟨by decide, by decide⟩ (jC.of rfl k_X11_refuse rfl ?_)
          show jX m_X11_refuse 99 0 0 0 [(0, .ref 31), (1, .int (-1))] [] _ 0 0 _
          refine x_aloadn (x := 31) rfl rfl ?_
          refine x_iloadn (x := (-1)) rfl rfl ?_
          refine x_putI 11 12 rfl f_11_94 rfl (jfin_no TX11 RX11 13 rfl rfl) (congrArg Prod.fst (F.1 31 (11, 13) rfl rfl)) rfl ?_
          refine x_iloadn (x := (-1)) rfl rfl ?_
          refine x_iret rfl rfl ?_
          show jX m_X11_levy 100 0 0 40 [(0, .ref 31), (1, .int a1), (2, .int a2), (3, .int a3), (4, .int a4)] [.int (-1)] _ 0 0 _
          refine x_iret rfl rfl ?_
          exact jqe (show sp_levy a1 a2 a3 a4 = (-1) by unfold sp_levy; (repeat' split) <;> first | rfl | (exfalso; omega)) (hQ _ (by repeat (first | exact FM | refine jFb_si rfl ?_ | refine jFb_sl rfl ?_ | refine jFb_ci rfl ?_ | refine jFb_cl rfl ?_ | refine jFb_sr rfl ?_)) (by repeat (first | exact O | refine jOl_si rfl ?_ | refine jOl_sl rfl ?_ | refine jOl_ci rfl ?_ | refine jOl_cl rfl ?_ | refine jOl_sr rfl ?_)))
        ·
          refine x_iload (x := a4) rfl rfl ?_
          refine x_inst (N := m_X11_isDay) (As := [.int a4]) (st := []) (d' := 99) (mc := 0) (ms := 0) (host := "") rfl t_X11_isDay ⟨Or.inl q_11_115, s_X11_isDay⟩ rfl (by decide) rfl rfl ⟨by decide, by decide⟩ (c_X11_isDay (x := a4) ?_)
          show jX m_X11_levy 100 0 0 32 [(0, .ref 31), (1, .int a1), (2, .int a2), (3, .int a3), (4, .int a4)] [.int (jp (0 ≤ a4.toInt ∧ a4.toInt ≤ 146399))] _ 0 0 _
          refine x_ifne (tgt := 41) rfl rfl (jpn ⟨fun c5 => ?_, fun c5 => ?_⟩)
          ·
            refine x_aloadn (x := 31) rfl rfl ?_
            refine x_getR (b := 32) 11 0 rfl f_11_10 rfl (congrArg Prod.fst (F.1 31 (11, 13) rfl rfl)) (F.2.1 3968 32 rfl rfl) ?_
            refine x_getR (b := 53) 1 10 rfl f_11_437 rfl (congrArg Prod.fst (F.1 32 (1, 20) rfl rfl)) (F.2.1 4106 53 rfl rfl) ?_
            refine x_inv (N := m_X8_isFull) (As := []) (b := 53) (st := []) (d' := 99) (mc := 0) (ms := 0) (host := "") 8 rfl t_X8_isFull ⟨Or.inl q_11_130, i_X8_isFull.1, i_X8_isFull.2⟩ ⟨by decide, rfl⟩ (congrArg Prod.fst (F.1 53 (8, 4) rfl rfl)) rfl (by decide) rfl rfl ⟨by decide, by decide⟩ (jC.of rfl k_X8_isFull rfl ?_)
            show jX m_X8_isFull 99 0 0 0 [(0, .ref 53)] [] _ 0 0 _
            refine x_aloadn (x := 53) rfl rfl ?_
            refine y_getI (v := 0) 8 3 rfl f_8_7 rfl (congrArg Prod.fst (F.1 53 (8, 4) rfl rfl)) (F.2.2.1 6787 0 rfl rfl) ?_
            refine x_aloadn (x := 53) rfl rfl ?_
            refine y_getI (v := 40) 8 1 rfl f_8_22 rfl (congrArg Prod.fst (F.1 53 (8, 4) rfl rfl)) (F.2.2.1 6785 40 rfl rfl) ?_
            refine x_iclt (tgt := 15) rfl rfl (br_t (by decide) ?_)
            refine x_iconst (v := 0) rfl ki_0 ?_
            refine x_zret rfl rfl (by first | decide | exact jp_01 _) ?_
            show jX m_X11_levy 100 0 0 51 [(0, .ref 31), (1, .int a1), (2, .int a2), (3, .int a3), (4, .int a4)] [.int 0] _ 0 0 _
            refine x_ifeq (tgt := 61) rfl rfl (br_t (by decide) ?_)
            refine x_aloadn (x := 31) rfl rfl ?_
            refine x_getR (b := 32) 11 0 rfl f_11_10 rfl (congrArg Prod.fst (F.1 31 (11, 13) rfl rfl)) (F.2.1 3968 32 rfl rfl) ?_
            refine x_getR (b := 53) 1 10 rfl f_11_437 rfl (congrArg Prod.fst (F.1 32 (1, 20) rfl rfl)) (F.2.1 4106 53 rfl rfl) ?_
            refine x_iload (x := a4) rfl rfl ?_
            refine x_iloadn (x := a2) rfl rfl ?_
            refine x_iloadn (x := a1) rfl rfl ?_
            refine x_iloadn (x := a3) rfl rfl ?_
            refine x_iconst (v := 0) rfl ki_0 ?_
            refine x_iconst (v := 0) rfl ki_0 ?_
            refine x_inv (N := m_X8_add) (As := [.int a4, .int a2, .int a1, .int a3, .int 0, .int 0]) (b := 53) (st := []) (d' := 99) (mc := 0) (ms := 0) (host := "") 8 rfl t_X8_add ⟨Or.inl q_11_145, i_X8_add.1, i_X8_add.2⟩ ⟨by decide, rfl⟩ (congrArg Prod.fst (F.1 53 (8, 4) rfl rfl)) rfl (by decide) rfl rfl ⟨by decide, by decide⟩ (jC.of rfl k_X8_add rfl ?_)
            show jX m_X8_add 99 0 0 0 [(0, .ref 53), (1, .int a4), (2, .int a2), (3, .int a1), (4, .int a3), (5, .int 0), (6, .int 0)] [] _ 0 0 _
            refine x_aloadn (x := 53) rfl rfl ?_
            refine y_getI (v := 0) 8 3 rfl f_8_7 rfl (congrArg Prod.fst (F.1 53 (8, 4) rfl rfl)) (F.2.2.1 6787 0 rfl rfl) ?_
            refine x_aloadn (x := 53) rfl rfl ?_
            refine y_getI (v := 40) 8 1 rfl f_8_22 rfl (congrArg Prod.fst (F.1 53 (8, 4) rfl rfl)) (F.2.2.1 6785 40 rfl rfl) ?_
            refine x_iclt (tgt := 12) rfl rfl (br_t (by decide) ?_)
            refine x_aloadn (x := 53) rfl rfl ?_
            refine y_getI (v := 0) 8 3 rfl f_8_7 rfl (congrArg Prod.fst (F.1 53 (8, 4) rfl rfl)) (F.2.2.1 6787 0 rfl rfl) ?_
            refine x_istore (ls' := [(7, .int 0), (0, .ref 53), (1, .int a4), (2, .int a2), (3, .int a1), (4, .int a3), (5, .int 0), (6, .int 0)]) rfl rfl rfl ?_
            refine x_aloadn (x := 53) rfl rfl ?_
            refine x_iload (x := 0) rfl rfl ?_
            refine x_iconst (v := 1) rfl ki_1 ?_
            refine y_iadd (v := 1) rfl (by decide) ?_
            refine x_putI 8 3 rfl f_8_7 rfl (jfin_no TX8 RX8 4 rfl rfl) (congrArg Prod.fst (F.1 53 (8, 4) rfl rfl)) rfl ?_
            refine x_aloadn (x := 53) rfl rfl ?_
            refine x_iload (x := 0) rfl rfl ?_
            refine x_iconst (v := 0) rfl ki_0 ?_
            refine x_iloadn (x := a4) rfl rfl ?_
            refine x_inv (N := m_X8_put) (As := [.int 0, .int 0, .int a4]) (b := 53) (st := []) (d' := 98) (mc := 0) (ms := 0) (host := "") 8 rfl t_X8_put ⟨Or.inl q_8_29, i_X8_put.1, i_X8_put.2⟩ ⟨by decide, rfl⟩ (congrArg Prod.fst (F.1 53 (8, 4) rfl rfl)) rfl (by decide) rfl rfl ⟨by decide, by decide⟩ (jC.of rfl k_X8_put rfl ?_)
            show jX m_X8_put 98 0 0 0 [(0, .ref 53), (1, .int 0), (2, .int 0), (3, .int a4)] [] _ 0 0 _
            refine x_iloadn (x := 0) rfl rfl ?_
            refine x_iflt (tgt := 38) rfl rfl (br_f (by decide) ?_)
            refine x_iloadn (x := 0) rfl rfl ?_
            refine x_aloadn (x := 53) rfl rfl ?_
            refine y_getI (v := 1) 8 3 rfl f_8_7 rfl (congrArg Prod.fst (F.1 53 (8, 4) rfl rfl)) rfl ?_
            refine x_icge (tgt := 38) rfl rfl (br_f (by decide) ?_)
            refine x_iloadn (x := 0) rfl rfl ?_
            refine x_iflt (tgt := 38) rfl rfl (br_f (by decide) ?_)
            refine x_iloadn (x := 0) rfl rfl ?_
            refine x_aloadn (x := 53) rfl rfl ?_
            refine y_getI (v := 4) 8 0 rfl f_8_19 rfl (congrArg Prod.fst (F.1 53 (8, 4) rfl rfl)) (F.2.2.1 6784 4 rfl rfl) ?_
            refine x_icge (tgt := 38) rfl rfl (br_f (by decide) ?_)
            refine x_aloadn (x := 53) rfl rfl ?_
            refine x_getR (b := 54) 8 2 rfl f_8_25 rfl (congrArg Prod.fst (F.1 53 (8, 4) rfl rfl)) (F.2.1 6786 54 rfl rfl) ?_
            refine x_iloadn (x := 0) rfl rfl ?_
            refine x_aloadn (x := 53) rfl rfl ?_
            refine y_getI (v := 4) 8 0 rfl f_8_19 rfl (congrArg Prod.fst (F.1 53 (8, 4) rfl rfl)) (F.2.2.1 6784 4 rfl rfl) ?_
            refine y_imul (v := 0) rfl (by decide) ?_
            refine x_iloadn (x := 0) rfl rfl ?_
            refine y_iadd (v := 0) rfl (by decide) ?_
            refine x_iloadn (x := a4) rfl rfl ?_
            refine y_iast (N := 160) 0 rfl (F.1 54 (100, 160) rfl rfl) rfl (jinb_of (by decide)) (by decide) ?_
            refine x_vret rfl rfl ?_
            show jX m_X8_add 99 0 0 34 [(7, .int 0), (0, .ref 53), (1, .int a4), (2, .int a2), (3, .int a1), (4, .int a3), (5, .int 0), (6, .int 0)] [] _ 0 0 _
            refine x_aloadn (x := 53) rfl rfl ?_
            refine x_iload (x := 0) rfl rfl ?_
            refine x_iconst (v := 1) rfl ki_1 ?_
            refine x_iloadn (x := a2) rfl rfl ?_
            refine x_inv (N := m_X8_put) (As := [.int 0, .int 1, .int a2]) (b := 53) (st := []) (d' := 98) (mc := 0) (ms := 0) (host := "") 8 rfl t_X8_put ⟨Or.inl q_8_29, i_X8_put.1, i_X8_put.2⟩ ⟨by decide, rfl⟩ (congrArg Prod.fst (F.1 53 (8, 4) rfl rfl)) rfl (by decide) rfl rfl ⟨by decide, by decide⟩ (jC.of rfl k_X8_put rfl ?_)
            show jX m_X8_put 98 0 0 0 [(0, .ref 53), (1, .int 0), (2, .int 1), (3, .int a2)] [] _ 0 0 _
            refine x_iloadn (x := 0) rfl rfl ?_
            refine x_iflt (tgt := 38) rfl rfl (br_f (by decide) ?_)
            refine x_iloadn (x := 0) rfl rfl ?_
            refine x_aloadn (x := 53) rfl rfl ?_
            refine y_getI (v := 1) 8 3 rfl f_8_7 rfl (congrArg Prod.fst (F.1 53 (8, 4) rfl rfl)) rfl ?_
            refine x_icge (tgt := 38) rfl rfl (br_f (by decide) ?_)
            refine x_iloadn (x := 1) rfl rfl ?_
            refine x_iflt (tgt := 38) rfl rfl (br_f (by decide) ?_)
            refine x_iloadn (x := 1) rfl rfl ?_
            refine x_aloadn (x := 53) rfl rfl ?_
            refine y_getI (v := 4) 8 0 rfl f_8_19 rfl (congrArg Prod.fst (F.1 53 (8, 4) rfl rfl)) (F.2.2.1 6784 4 rfl rfl) ?_
            refine x_icge (tgt := 38) rfl rfl (br_f (by decide) ?_)
            refine x_aloadn (x := 53) rfl rfl ?_
            refine x_getR (b := 54) 8 2 rfl f_8_25 rfl (congrArg Prod.fst (F.1 53 (8, 4) rfl rfl)) (F.2.1 6786 54 rfl rfl) ?_
            refine x_iloadn (x := 0) rfl rfl ?_
            refine x_aloadn (x := 53) rfl rfl ?_
            refine y_getI (v := 4) 8 0 rfl f_8_19 rfl (congrArg Prod.fst (F.1 53 (8, 4) rfl rfl)) (F.2.2.1 6784 4 rfl rfl) ?_
            refine y_imul (v := 0) rfl (by decide) ?_
            refine x_iloadn (x := 1) rfl rfl ?_
            refine y_iadd (v := 1) rfl (by decide) ?_
            refine x_iloadn (x := a2) rfl rfl ?_
            refine y_iast (N := 160) 1 rfl (F.1 54 (100, 160) rfl rfl) rfl (jinb_of (by decide)) (by decide) ?_
            refine x_vret rfl rfl ?_
            show jX m_X8_add 99 0 0 42 [(7, .int 0), (0, .ref 53), (1, .int a4), (2, .int a2), (3, .int a1), (4, .int a3), (5, .int 0), (6, .int 0)] [] _ 0 0 _
            refine x_aloadn (x := 53) rfl rfl ?_
            refine x_iload (x := 0) rfl rfl ?_
            refine x_iconst (v := 2) rfl ki_2 ?_
            refine x_iloadn (x := a1) rfl rfl ?_
            refine x_inv (N := m_X8_put) (As := [.int 0, .int 2, .int a1]) (b := 53) (st := []) (d' := 98) (mc := 0) (ms := 0) (host := "") 8 rfl t_X8_put ⟨Or.inl q_8_29, i_X8_put.1, i_X8_put.2⟩ ⟨by decide, rfl⟩ (congrArg Prod.fst (F.1 53 (8, 4) rfl rfl)) rfl (by decide) rfl rfl ⟨by decide, by decide⟩ (jC.of rfl k_X8_put rfl ?_)
            show jX m_X8_put 98 0 0 0 [(0, .ref 53), (1, .int 0), (2, .int 2), (3, .int a1)] [] _ 0 0 _
            refine x_iloadn (x := 0) rfl rfl ?_
            refine x_iflt (tgt := 38) rfl rfl (br_f (by decide) ?_)
            refine x_iloadn (x := 0) rfl rfl ?_
            refine x_aloadn (x := 53) rfl rfl ?_
            refine y_getI (v := 1) 8 3 rfl f_8_7 rfl (congrArg Prod.fst (F.1 53 (8, 4) rfl rfl)) rfl ?_
            refine x_icge (tgt := 38) rfl rfl (br_f (by decide) ?_)
            refine x_iloadn (x := 2) rfl rfl ?_
            refine x_iflt (tgt := 38) rfl rfl (br_f (by decide) ?_)
            refine x_iloadn (x := 2) rfl rfl ?_
            refine x_aloadn (x := 53) rfl rfl ?_
            refine y_getI (v := 4) 8 0 rfl f_8_19 rfl (congrArg Prod.fst (F.1 53 (8, 4) rfl rfl)) (F.2.2.1 6784 4 rfl rfl) ?_
            refine x_icge (tgt := 38) rfl rfl (br_f (by decide) ?_)
            refine x_aloadn (x := 53) rfl rfl ?_
            refine x_getR (b := 54) 8 2 rfl f_8_25 rfl (congrArg Prod.fst (F.1 53 (8, 4) rfl rfl)) (F.2.1 6786 54 rfl rfl) ?_
            refine x_iloadn (x := 0) rfl rfl ?_
            refine x_aloadn (x := 53) rfl rfl ?_
            refine y_getI (v := 4) 8 0 rfl f_8_19 rfl (congrArg Prod.fst (F.1 53 (8, 4) rfl rfl)) (F.2.2.1 6784 4 rfl rfl) ?_
            refine y_imul (v := 0) rfl (by decide) ?_
            refine x_iloadn (x := 2) rfl rfl ?_
            refine y_iadd (v := 2) rfl (by decide) ?_
            refine x_iloadn (x := a1) rfl rfl ?_
            refine y_iast (N := 160) 2 rfl (F.1 54 (100, 160) rfl rfl) rfl (jinb_of (by decide)) (by decide) ?_
            refine x_vret rfl rfl ?_
            show jX m_X8_add 99 0 0 50 [(7, .int 0), (0, .ref 53), (1, .int a4), (2, .int a2), (3, .int a1), (4, .int a3), (5, .int 0), (6, .int 0)] [] _ 0 0 _
            refine x_aloadn (x := 53) rfl rfl ?_
            refine x_iload (x := 0) rfl rfl ?_
            refine x_iconst (v := 3) rfl ki_3 ?_
            refine x_iload (x := a3) rfl rfl ?_
            refine x_inv (N := m_X8_put) (As := [.int 0, .int 3, .int a3]) (b := 53) (st := []) (d' := 98) (mc := 0) (ms := 0) (host := "") 8 rfl t_X8_put ⟨Or.inl q_8_29, i_X8_put.1, i_X8_put.2⟩ ⟨by decide, rfl⟩ (congrArg Prod.fst (F.1 53 (8, 4) rfl rfl)) rfl (by decide) rfl rfl ⟨by decide, by decide⟩ (jC.of rfl k_X8_put rfl ?_)
            show jX m_X8_put 98 0 0 0 [(0, .ref 53), (1, .int 0), (2, .int 3), (3, .int a3)] [] _ 0 0 _
            refine x_iloadn (x := 0) rfl rfl ?_
            refine x_iflt (tgt := 38) rfl rfl (br_f (by decide) ?_)
            refine x_iloadn (x := 0) rfl rfl ?_
            refine x_aloadn (x := 53) rfl rfl ?_
            refine y_getI (v := 1) 8 3 rfl f_8_7 rfl (congrArg Prod.fst (F.1 53 (8, 4) rfl rfl)) rfl ?_
            refine x_icge (tgt := 38) rfl rfl (br_f (by decide) ?_)
            refine x_iloadn (x := 3) rfl rfl ?_
            refine x_iflt (tgt := 38) rfl rfl (br_f (by decide) ?_)
            refine x_iloadn (x := 3) rfl rfl ?_
            refine x_aloadn (x := 53) rfl rfl ?_
            refine y_getI (v := 4) 8 0 rfl f_8_19 rfl (congrArg Prod.fst (F.1 53 (8, 4) rfl rfl)) (F.2.2.1 6784 4 rfl rfl) ?_
            refine x_icge (tgt := 38) rfl rfl (br_f (by decide) ?_)
            refine x_aloadn (x := 53) rfl rfl ?_
            refine x_getR (b := 54) 8 2 rfl f_8_25 rfl (congrArg Prod.fst (F.1 53 (8, 4) rfl rfl)) (F.2.1 6786 54 rfl rfl) ?_
            refine x_iloadn (x := 0) rfl rfl ?_
            refine x_aloadn (x := 53) rfl rfl ?_
            refine y_getI (v := 4) 8 0 rfl f_8_19 rfl (congrArg Prod.fst (F.1 53 (8, 4) rfl rfl)) (F.2.2.1 6784 4 rfl rfl) ?_
            refine y_imul (v := 0) rfl (by decide) ?_
            refine x_iloadn (x := 3) rfl rfl ?_
            refine y_iadd (v := 3) rfl (by decide) ?_
            refine x_iloadn (x := a3) rfl rfl ?_
            refine y_iast (N := 160) 3 rfl (F.1 54 (100, 160) rfl rfl) rfl (jinb_of (by decide)) (by decide) ?_
            refine x_vret rfl rfl ?_
            show jX m_X8_add 99 0 0 59 [(7, .int 0), (0, .ref 53), (1, .int a4), (2, .int a2), (3, .int a1), (4, .int a3), (5, .int 0), (6, .int 0)] [] _ 0 0 _
            refine x_aloadn (x := 53) rfl rfl ?_
            refine x_iload (x := 0) rfl rfl ?_
            refine x_iconst (v := 4) rfl ki_4 ?_
            refine x_iload (x := 0) rfl rfl ?_
            refine x_inv (N := m_X8_put) (As := [.int 0, .int 4, .int 0]) (b := 53) (st := []) (d' := 98) (mc := 0) (ms := 0) (host := "") 8 rfl t_X8_put ⟨Or.inl q_8_29, i_X8_put.1, i_X8_put.2⟩ ⟨by decide, rfl⟩ (congrArg Prod.fst (F.1 53 (8, 4) rfl rfl)) rfl (by decide) rfl rfl ⟨by decide, by decide⟩ (jC.of rfl k_X8_put rfl ?_)
            show jX m_X8_put 98 0 0 0 [(0, .ref 53), (1, .int 0), (2, .int 4), (3, .int 0)] [] _ 0 0 _
            refine x_iloadn (x := 0) rfl rfl ?_
            refine x_iflt (tgt := 38) rfl rfl (br_f (by decide) ?_)
            refine x_iloadn (x := 0) rfl rfl ?_
            refine x_aloadn (x := 53) rfl rfl ?_
            refine y_getI (v := 1) 8 3 rfl f_8_7 rfl (congrArg Prod.fst (F.1 53 (8, 4) rfl rfl)) rfl ?_
            refine x_icge (tgt := 38) rfl rfl (br_f (by decide) ?_)
            refine x_iloadn (x := 4) rfl rfl ?_
            refine x_iflt (tgt := 38) rfl rfl (br_f (by decide) ?_)
            refine x_iloadn (x := 4) rfl rfl ?_
            refine x_aloadn (x := 53) rfl rfl ?_
            refine y_getI (v := 4) 8 0 rfl f_8_19 rfl (congrArg Prod.fst (F.1 53 (8, 4) rfl rfl)) (F.2.2.1 6784 4 rfl rfl) ?_
            refine x_icge (tgt := 38) rfl rfl (br_t (by decide) ?_)
            refine x_vret rfl rfl ?_
            show jX m_X8_add 99 0 0 68 [(7, .int 0), (0, .ref 53), (1, .int a4), (2, .int a2), (3, .int a1), (4, .int a3), (5, .int 0), (6, .int 0)] [] _ 0 0 _
            refine x_aloadn (x := 53) rfl rfl ?_
            refine x_iload (x := 0) rfl rfl ?_
            refine x_iconst (v := 5) rfl ki_5 ?_
            refine x_iload (x := 0) rfl rfl ?_
            refine x_inv (N := m_X8_put) (As := [.int 0, .int 5, .int 0]) (b := 53) (st := []) (d' := 98) (mc := 0) (ms := 0) (host := "") 8 rfl t_X8_put ⟨Or.inl q_8_29, i_X8_put.1, i_X8_put.2⟩ ⟨by decide, rfl⟩ (congrArg Prod.fst (F.1 53 (8, 4) rfl rfl)) rfl (by decide) rfl rfl ⟨by decide, by decide⟩ (jC.of rfl k_X8_put rfl ?_)
            show jX m_X8_put 98 0 0 0 [(0, .ref 53), (1, .int 0), (2, .int 5), (3, .int 0)] [] _ 0 0 _
            refine x_iloadn (x := 0) rfl rfl ?_
            refine x_iflt (tgt := 38) rfl rfl (br_f (by decide) ?_)
            refine x_iloadn (x := 0) rfl rfl ?_
            refine x_aloadn (x := 53) rfl rfl ?_
            refine y_getI (v := 1) 8 3 rfl f_8_7 rfl (congrArg Prod.fst (F.1 53 (8, 4) rfl rfl)) rfl ?_
            refine x_icge (tgt := 38) rfl rfl (br_f (by decide) ?_)
            refine x_iloadn (x := 5) rfl rfl ?_
            refine x_iflt (tgt := 38) rfl rfl (br_f (by decide) ?_)
            refine x_iloadn (x := 5) rfl rfl ?_
            refine x_aloadn (x := 53) rfl rfl ?_
            refine y_getI (v := 4) 8 0 rfl f_8_19 rfl (congrArg Prod.fst (F.1 53 (8, 4) rfl rfl)) (F.2.2.1 6784 4 rfl rfl) ?_
            refine x_icge (tgt := 38) rfl rfl (br_t (by decide) ?_)
            refine x_vret rfl rfl ?_
            show jX m_X8_add 99 0 0 77 [(7, .int 0), (0, .ref 53), (1, .int a4), (2, .int a2), (3, .int a1), (4, .int a3), (5, .int 0), (6, .int 0)] [] _ 0 0 _
            refine x_vret rfl rfl ?_
            show jX m_X11_levy 100 0 0 78 [(0, .ref 31), (1, .int a1), (2, .int a2), (3, .int a3), (4, .int a4)] [] _ 0 0 _
            refine x_aloadn (x := 31) rfl rfl ?_
            refine x_aloadn (x := 31) rfl rfl ?_
            refine x_getR (b := 32) 11 0 rfl f_11_10 rfl (congrArg Prod.fst (F.1 31 (11, 13) rfl rfl)) (F.2.1 3968 32 rfl rfl) ?_
            refine x_getR (b := 53) 1 10 rfl f_11_437 rfl (congrArg Prod.fst (F.1 32 (1, 20) rfl rfl)) (F.2.1 4106 53 rfl rfl) ?_
            refine y_getI (v := 1) 8 3 rfl f_11_142 rfl (congrArg Prod.fst (F.1 53 (8, 4) rfl rfl)) rfl ?_
            refine x_iconst (v := 1) rfl ki_1 ?_
            refine y_isub (v := 0) rfl (by decide) ?_
            refine x_inv (N := m_X11_accept) (As := [.int 0]) (b := 31) (st := []) (d' := 99) (mc := 0) (ms := 0) (host := "") 11 rfl t_X11_accept ⟨Or.inl q_11_165, i_X11_accept.1, i_X11_accept.2⟩ ⟨by decide, rfl⟩ (congrArg Prod.fst (F.1 31 (11, 13) rfl rfl)) rfl (by decide) rfl rfl ⟨by decide, by decide⟩ (jC.of rfl k_X11_accept rfl ?_)
            show jX m_X11_accept 99 0 0 0 [(0, .ref 31), (1, .int 0)] [] _ 0 0 _
            refine x_aloadn (x := 31) rfl rfl ?_
            refine x_iconst (v := 0) rfl ki_0 ?_
            refine x_putI 11 12 rfl f_11_94 rfl (jfin_no TX11 RX11 13 rfl rfl) (congrArg Prod.fst (F.1 31 (11, 13) rfl rfl)) rfl ?_
            refine x_aloadn (x := 31) rfl rfl ?_
            refine x_getR (b := 32) 11 0 rfl f_11_10 rfl (congrArg Prod.fst (F.1 31 (11, 13) rfl rfl)) (F.2.1 3968 32 rfl rfl) ?_
            refine x_dup rfl rfl ?_
            refine y_getI (v := 1) 1 19 rfl f_11_528 rfl (congrArg Prod.fst (F.1 32 (1, 20) rfl rfl)) (F.2.2.1 4115 1 rfl rfl) ?_
            refine x_iconst (v := 1) rfl ki_1 ?_
            refine y_iadd (v := 2) rfl (by decide) ?_
            refine x_putI 1 19 rfl f_11_528 rfl (jfin_no TX1 RX1 20 rfl rfl) (congrArg Prod.fst (F.1 32 (1, 20) rfl rfl)) rfl ?_
            refine x_iloadn (x := 0) rfl rfl ?_
            refine x_iret rfl rfl ?_
            show jX m_X11_levy 100 0 0 94 [(0, .ref 31), (1, .int a1), (2, .int a2), (3, .int a3), (4, .int a4)] [.int 0] _ 0 0 _
            refine x_iret rfl rfl ?_
            exact jqe (show sp_levy a1 a2 a3 a4 = 0 by unfold sp_levy; (repeat' split) <;> first | rfl | (exfalso; omega)) (hQ _ (by repeat (first | exact FM | refine jFb_si rfl ?_ | refine jFb_sl rfl ?_ | refine jFb_ci rfl ?_ | refine jFb_cl rfl ?_ | refine jFb_sr rfl ?_)) (by repeat (first | exact O | refine jOl_si rfl ?_ | refine jOl_sl rfl ?_ | refine jOl_ci rfl ?_ | refine jOl_cl rfl ?_ | refine jOl_sr rfl ?_)))
          ·
            refine x_aloadn (x := 31) rfl rfl ?_
            refine x_iconst (v := (-1)) rfl ki_m1 ?_
            refine x_inv (N := m_X11_refuse) (As := [.int (-1)]) (b := 31) (st := []) (d' := 99) (mc := 0) (ms := 0) (host := "") 11 rfl t_X11_refuse ⟨Or.inl q_11_206, i_X11_refuse.1, i_X11_refuse.2⟩ ⟨by decide, rfl⟩ (congrArg Prod.fst (F.1 31 (11, 13) rfl rfl)) rfl (by decide) rfl rfl ⟨by decide, by decide⟩ (jC.of rfl k_X11_refuse rfl ?_)
            show jX m_X11_refuse 99 0 0 0 [(0, .ref 31), (1, .int (-1))] [] _ 0 0 _
            refine x_aloadn (x := 31) rfl rfl ?_
            refine x_iloadn (x := (-1)) rfl rfl ?_
            refine x_putI 11 12 rfl f_11_94 rfl (jfin_no TX11 RX11 13 rfl rfl) (congrArg Prod.fst (F.1 31 (11, 13) rfl rfl)) rfl ?_
            refine x_iloadn (x := (-1)) rfl rfl ?_
            refine x_iret rfl rfl ?_
            show jX m_X11_levy 100 0 0 40 [(0, .ref 31), (1, .int a1), (2, .int a2), (3, .int a3), (4, .int a4)] [.int (-1)] _ 0 0 _
            refine x_iret rfl rfl ?_
            exact jqe (show sp_levy a1 a2 a3 a4 = (-1) by unfold sp_levy; (repeat' split) <;> first | rfl | (exfalso; omega)) (hQ _ (by repeat (first | exact FM | refine jFb_si rfl ?_ | refine jFb_sl rfl ?_ | refine jFb_ci rfl ?_ | refine jFb_cl rfl ?_ | refine jFb_sr rfl ?_)) (by repeat (first | exact O | refine jOl_si rfl ?_ | refine jOl_sl rfl ?_ | refine jOl_ci rfl ?_ | refine jOl_cl rfl ?_ | refine jOl_sr rfl ?_)))
set_option maxRecDepth 100000 in
set_option maxHeartbeats 40000000 in
theorem pm_levy (a1 a2 a3 a4 : Int32) {xs : Nat → Int32} {h : jH} {Q : Option Value → jH → Prop} (F : jFb 125 h) (O : jOl 7 xs h) (hQ : ∀ h', jOl 7 xs h' → Q (some (.int (sp_levy a1 a2 a3 a4))) h') : jC m_X12_levy 100 0 0 [.ref 125, .int a1, .int a2, .int a3, .int a4] h Q := by
  refine jC.of rfl k_X12_levy rfl ?_
  show jX m_X12_levy 100 0 0 0 [(0, .ref 125), (1, .int a1), (2, .int a2), (3, .int a3), (4, .int a4)] [] _ 0 0 _
  refine x_aloadn (x := 125) rfl rfl ?_
  refine x_iconst (v := 0) rfl ki_0 ?_
  refine x_putI 12 0 rfl f_12_180 rfl (jfin_no TX12 RX12 92 rfl rfl) (congrArg Prod.fst (F.1 125 (12, 92) rfl rfl)) rfl ?_
  refine x_iloadn (x := a1) rfl rfl ?_
  refine x_i2l rfl ?_
  refine x_lconst (v := 0) rfl kl_0 ?_
  refine x_ldc2 (v := 2) rfl z_12_482 ?_
  refine x_inst (N := m_X12_in) (As := [.long (a1.toInt64), .long 0, .long 2]) (st := []) (d' := 99) (mc := 0) (ms := 0) (host := "") rfl t_X12_in ⟨Or.inl q_12_188, s_X12_in⟩ rfl (by decide) rfl rfl ⟨by decide, by decide⟩ (c_X12_in (jt_l _) (by decide) (by decide) ?_)
  show jX m_X12_levy 100 0 0 14 [(0, .ref 125), (1, .int a1), (2, .int a2), (3, .int a3), (4, .int a4)] [.int (jp (0 ≤ a1.toInt ∧ a1.toInt ≤ 2))] _ 0 0 _
  refine x_ifeq (tgt := 44) rfl rfl (jpe ⟨fun c1 => ?_, fun c1 => ?_⟩)
  ·
    refine x_aloadn (x := 125) rfl rfl ?_
    refine x_iconst (v := (-1)) rfl ki_m1 ?_
    refine x_inv (N := m_X12_told) (As := [.int (-1)]) (b := 125) (st := []) (d' := 99) (mc := 0) (ms := 0) (host := "") 12 rfl t_X12_told ⟨Or.inl q_12_197, i_X12_told.1, i_X12_told.2⟩ ⟨by decide, rfl⟩ (congrArg Prod.fst (F.1 125 (12, 92) rfl rfl)) rfl (by decide) rfl rfl ⟨by decide, by decide⟩ (jC.of rfl k_X12_told rfl ?_)
    show jX m_X12_told 99 0 0 0 [(0, .ref 125), (1, .int (-1))] [] _ 0 0 _
    refine x_aloadn (x := 125) rfl rfl ?_
    refine x_iloadn (x := (-1)) rfl rfl ?_
    refine x_ifge (tgt := 9) rfl rfl (br_f (by decide) ?_)
    refine x_iloadn (x := (-1)) rfl rfl ?_
    refine x_goto (tgt := 10) rfl rfl ?_
    refine x_putI 12 1 rfl f_12_183 rfl (jfin_no TX12 RX12 92 rfl rfl) (congrArg Prod.fst (F.1 125 (12, 92) rfl rfl)) rfl ?_
    refine x_iloadn (x := (-1)) rfl rfl ?_
    refine x_iret rfl rfl ?_
    show jX m_X12_levy 100 0 0 49 [(0, .ref 125), (1, .int a1), (2, .int a2), (3, .int a3), (4, .int a4)] [.int (-1)] _ 0 0 _
    refine x_iret rfl rfl ?_
    exact jqe (show sp_levy a1 a2 a3 a4 = (-1) by unfold sp_levy; (repeat' split) <;> first | rfl | (exfalso; omega)) (hQ _ (by repeat (first | exact O | refine jOl_si rfl ?_ | refine jOl_sl rfl ?_ | refine jOl_ci rfl ?_ | refine jOl_cl rfl ?_ | refine jOl_sr rfl ?_)))
  ·
    refine x_iloadn (x := a2) rfl rfl ?_
    refine x_inst (N := m_X12_isYear) (As := [.int a2]) (st := []) (d' := 99) (mc := 0) (ms := 0) (host := "") rfl t_X12_isYear ⟨Or.inl q_12_817, s_X12_isYear⟩ rfl (by decide) rfl rfl ⟨by decide, by decide⟩ (c_X12_isYear (x := a2) ?_)
    show jX m_X12_levy 100 0 0 21 [(0, .ref 125), (1, .int a1), (2, .int a2), (3, .int a3), (4, .int a4)] [.int (jp (0 ≤ a2.toInt ∧ a2.toInt ≤ 399))] _ 0 0 _
    refine x_ifeq (tgt := 44) rfl rfl (jpe ⟨fun c2 => ?_, fun c2 => ?_⟩)
    ·
      refine x_aloadn (x := 125) rfl rfl ?_
      refine x_iconst (v := (-1)) rfl ki_m1 ?_
      refine x_inv (N := m_X12_told) (As := [.int (-1)]) (b := 125) (st := []) (d' := 99) (mc := 0) (ms := 0) (host := "") 12 rfl t_X12_told ⟨Or.inl q_12_197, i_X12_told.1, i_X12_told.2⟩ ⟨by decide, rfl⟩ (congrArg Prod.fst (F.1 125 (12, 92) rfl rfl)) rfl (by decide) rfl rfl ⟨by decide, by decide⟩ (jC.of rfl k_X12_told rfl ?_)
      show jX m_X12_told 99 0 0 0 [(0, .ref 125), (1, .int (-1))] [] _ 0 0 _
      refine x_aloadn (x := 125) rfl rfl ?_
      refine x_iloadn (x := (-1)) rfl rfl ?_
      refine x_ifge (tgt := 9) rfl rfl (br_f (by decide) ?_)
      refine x_iloadn (x := (-1)) rfl rfl ?_
      refine x_goto (tgt := 10) rfl rfl ?_
      refine x_putI 12 1 rfl f_12_183 rfl (jfin_no TX12 RX12 92 rfl rfl) (congrArg Prod.fst (F.1 125 (12, 92) rfl rfl)) rfl ?_
      refine x_iloadn (x := (-1)) rfl rfl ?_
      refine x_iret rfl rfl ?_
      show jX m_X12_levy 100 0 0 49 [(0, .ref 125), (1, .int a1), (2, .int a2), (3, .int a3), (4, .int a4)] [.int (-1)] _ 0 0 _
      refine x_iret rfl rfl ?_
      exact jqe (show sp_levy a1 a2 a3 a4 = (-1) by unfold sp_levy; (repeat' split) <;> first | rfl | (exfalso; omega)) (hQ _ (by repeat (first | exact O | refine jOl_si rfl ?_ | refine jOl_sl rfl ?_ | refine jOl_ci rfl ?_ | refine jOl_cl rfl ?_ | refine jOl_sr rfl ?_)))
    ·
      refine x_iloadn (x := a3) rfl rfl ?_
      refine x_i2l rfl ?_
      refine x_lconst (v := 0) rfl kl_0 ?_
      refine x_ldc2 (v := 1000000) rfl z_12_244 ?_
      refine x_inst (N := m_X12_in) (As := [.long (a3.toInt64), .long 0, .long 1000000]) (st := []) (d' := 99) (mc := 0) (ms := 0) (host := "") rfl t_X12_in ⟨Or.inl q_12_188, s_X12_in⟩ rfl (by decide) rfl rfl ⟨by decide, by decide⟩ (c_X12_in (jt_l _) (by decide) (by decide) ?_)
      show jX m_X12_levy 100 0 0 33 [(0, .ref 125), (1, .int a1), (2, .int a2), (3, .int a3), (4, .int a4)] [.int (jp (0 ≤ a3.toInt ∧ a3.toInt ≤ 1000000))] _ 0 0 _
      refine x_ifeq (tgt := 44) rfl rfl (jpe ⟨fun c3 => ?_, fun c3 => ?_⟩)
      ·
        refine x_aloadn (x := 125) rfl rfl ?_
        refine x_iconst (v := (-1)) rfl ki_m1 ?_
        refine x_inv (N := m_X12_told) (As := [.int (-1)]) (b := 125) (st := []) (d' := 99) (mc := 0) (ms := 0) (host := "") 12 rfl t_X12_told ⟨Or.inl q_12_197, i_X12_told.1, i_X12_told.2⟩ ⟨by decide, rfl⟩ (congrArg Prod.fst (F.1 125 (12, 92) rfl rfl)) rfl (by decide) rfl rfl ⟨by decide, by decide⟩ (jC.of rfl k_X12_told rfl ?_)
        show jX m_X12_told 99 0 0 0 [(0, .ref 125), (1, .int (-1))] [] _ 0 0 _
        refine x_aloadn (x := 125) rfl rfl ?_
        refine x_iloadn (x := (-1)) rfl rfl ?_
        refine x_ifge (tgt := 9) rfl rfl (br_f (by decide) ?_)
        refine x_iloadn (x := (-1)) rfl rfl ?_
        refine x_goto (tgt := 10) rfl rfl ?_
        refine x_putI 12 1 rfl f_12_183 rfl (jfin_no TX12 RX12 92 rfl rfl) (congrArg Prod.fst (F.1 125 (12, 92) rfl rfl)) rfl ?_
        refine x_iloadn (x := (-1)) rfl rfl ?_
        refine x_iret rfl rfl ?_
        show jX m_X12_levy 100 0 0 49 [(0, .ref 125), (1, .int a1), (2, .int a2), (3, .int a3), (4, .int a4)] [.int (-1)] _ 0 0 _
        refine x_iret rfl rfl ?_
        exact jqe (show sp_levy a1 a2 a3 a4 = (-1) by unfold sp_levy; (repeat' split) <;> first | rfl | (exfalso; omega)) (hQ _ (by repeat (first | exact O | refine jOl_si rfl ?_ | refine jOl_sl rfl ?_ | refine jOl_ci rfl ?_ | refine jOl_cl rfl ?_ | refine jOl_sr rfl ?_)))
      ·
        refine x_iload (x := a4) rfl rfl ?_
        refine x_inst (N := m_X12_isDay) (As := [.int a4]) (st := []) (d' := 99) (mc := 0) (ms := 0) (host := "") rfl t_X12_isDay ⟨Or.inl q_12_273, s_X12_isDay⟩ rfl (by decide) rfl rfl ⟨by decide, by decide⟩ (c_X12_isDay (x := a4) ?_)
        show jX m_X12_levy 100 0 0 41 [(0, .ref 125), (1, .int a1), (2, .int a2), (3, .int a3), (4, .int a4)] [.int (jp (0 ≤ a4.toInt ∧ a4.toInt ≤ 146399))] _ 0 0 _
        refine x_ifne (tgt := 50) rfl rfl (jpn ⟨fun c4 => ?_, fun c4 => ?_⟩)
        ·
          refine x_aloadn (x := 125) rfl rfl ?_
          refine x_getR (b := 126) 12 2 rfl f_12_8 rfl (congrArg Prod.fst (F.1 125 (12, 92) rfl rfl)) (F.2.1 16002 126 rfl rfl) ?_
          refine x_bipush (v := 11) rfl kb_11 ?_
          refine y_iald (v := 0) (N := 50660) 11 rfl (F.1 126 (100, 50660) rfl rfl) (jinb_of (by decide)) (by decide) (F.2.2.2.1 126 rfl rfl 11).1 ?_
          refine x_bipush (v := 40) rfl kb_40 ?_
          refine x_icne (tgt := 69) rfl rfl (bn_t (by decide) ?_)
          refine x_aloadn (x := 125) rfl rfl ?_
          refine x_ldcw (v := 48300) rfl z_12_820 ?_
          refine x_iconst (v := 4) rfl ki_4 ?_
          refine x_aloadn (x := 125) rfl rfl ?_
          refine x_getR (b := 126) 12 2 rfl f_12_8 rfl (congrArg Prod.fst (F.1 125 (12, 92) rfl rfl)) (F.2.1 16002 126 rfl rfl) ?_
          refine x_bipush (v := 11) rfl kb_11 ?_
          refine y_iald (v := 0) (N := 50660) 11 rfl (F.1 126 (100, 50660) rfl rfl) (jinb_of (by decide)) (by decide) (F.2.2.2.1 126 rfl rfl 11).1 ?_
          refine y_imul (v := 0) rfl (by decide) ?_
          refine y_iadd (v := 48300) rfl (by decide) ?_
          refine x_iloadn (x := a1) rfl rfl ?_
          refine x_iloadn (x := a2) rfl rfl ?_
          refine x_iloadn (x := a3) rfl rfl ?_
          refine x_iload (x := a4) rfl rfl ?_
          refine x_inv (N := m_X12_addFour) (As := [.int 48300, .int a1, .int a2, .int a3, .int a4]) (b := 125) (st := []) (d' := 99) (mc := 0) (ms := 0) (host := "") 12 rfl t_X12_addFour ⟨Or.inl q_12_814, i_X12_addFour.1, i_X12_addFour.2⟩ ⟨by decide, rfl⟩ (congrArg Prod.fst (F.1 125 (12, 92) rfl rfl)) rfl (by decide) rfl rfl ⟨by decide, by decide⟩ (jC.of rfl k_X12_addFour rfl ?_)
          show jX m_X12_addFour 99 0 0 0 [(0, .ref 125), (1, .int 48300), (2, .int a1), (3, .int a2), (4, .int a3), (5, .int a4)] [] _ 0 0 _
          refine x_aloadn (x := 125) rfl rfl ?_
          refine x_getR (b := 126) 12 2 rfl f_12_8 rfl (congrArg Prod.fst (F.1 125 (12, 92) rfl rfl)) (F.2.1 16002 126 rfl rfl) ?_
          refine x_iloadn (x := 48300) rfl rfl ?_
          refine x_iloadn (x := a1) rfl rfl ?_
          refine y_iast (N := 50660) 48300 rfl (F.1 126 (100, 50660) rfl rfl) rfl (jinb_of (by decide)) (by decide) ?_
          refine x_aloadn (x := 125) rfl rfl ?_
          refine x_getR (b := 126) 12 2 rfl f_12_8 rfl (congrArg Prod.fst (F.1 125 (12, 92) rfl rfl)) (F.2.1 16002 126 rfl rfl) ?_
          refine x_iloadn (x := 48300) rfl rfl ?_
          refine x_iconst (v := 1) rfl ki_1 ?_
          refine y_iadd (v := 48301) rfl (by decide) ?_
          refine x_iloadn (x := a2) rfl rfl ?_
          refine y_iast (N := 50660) 48301 rfl (F.1 126 (100, 50660) rfl rfl) rfl (jinb_of (by decide)) (by decide) ?_
          refine x_aloadn (x := 125) rfl rfl ?_
          refine x_getR (b := 126) 12 2 rfl f_12_8 rfl (congrArg Prod.fst (F.1 125 (12, 92) rfl rfl)) (F.2.1 16002 126 rfl rfl) ?_
          refine x_iloadn (x := 48300) rfl rfl ?_
          refine x_iconst (v := 2) rfl ki_2 ?_
          refine y_iadd (v := 48302) rfl (by decide) ?_
          refine x_iload (x := a3) rfl rfl ?_
          refine y_iast (N := 50660) 48302 rfl (F.1 126 (100, 50660) rfl rfl) rfl (jinb_of (by decide)) (by decide) ?_
          refine x_aloadn (x := 125) rfl rfl ?_
          refine x_getR (b := 126) 12 2 rfl f_12_8 rfl (congrArg Prod.fst (F.1 125 (12, 92) rfl rfl)) (F.2.1 16002 126 rfl rfl) ?_
          refine x_iloadn (x := 48300) rfl rfl ?_
          refine x_iconst (v := 3) rfl ki_3 ?_
          refine y_iadd (v := 48303) rfl (by decide) ?_
          refine x_iload (x := a4) rfl rfl ?_
          refine y_iast (N := 50660) 48303 rfl (F.1 126 (100, 50660) rfl rfl) rfl (jinb_of (by decide)) (by decide) ?_
          refine x_vret rfl rfl ?_
          show jX m_X12_levy 100 0 0 91 [(0, .ref 125), (1, .int a1), (2, .int a2), (3, .int a3), (4, .int a4)] [] _ 0 0 _
          refine x_aloadn (x := 125) rfl rfl ?_
          refine x_getR (b := 126) 12 2 rfl f_12_8 rfl (congrArg Prod.fst (F.1 125 (12, 92) rfl rfl)) (F.2.1 16002 126 rfl rfl) ?_
          refine x_bipush (v := 11) rfl kb_11 ?_
          refine x_dup2 rfl rfl rfl ?_
          refine y_iald (v := 0) (N := 50660) 11 rfl (F.1 126 (100, 50660) rfl rfl) (jinb_of (by decide)) (by decide) (F.2.2.2.1 126 rfl rfl 11).1 ?_
          refine x_iconst (v := 1) rfl ki_1 ?_
          refine y_iadd (v := 1) rfl (by decide) ?_
          refine y_iast (N := 50660) 11 rfl (F.1 126 (100, 50660) rfl rfl) rfl (jinb_of (by decide)) (by decide) ?_
          refine x_aloadn (x := 125) rfl rfl ?_
          refine x_aloadn (x := 125) rfl rfl ?_
          refine x_getR (b := 126) 12 2 rfl f_12_8 rfl (congrArg Prod.fst (F.1 125 (12, 92) rfl rfl)) (F.2.1 16002 126 rfl rfl) ?_
          refine x_bipush (v := 11) rfl kb_11 ?_
          refine y_iald (v := 1) (N := 50660) 11 rfl (F.1 126 (100, 50660) rfl rfl) (jinb_of (by decide)) (by decide) rfl ?_
          refine x_iconst (v := 1) rfl ki_1 ?_
          refine y_isub (v := 0) rfl (by decide) ?_
          refine x_inv (N := m_X12_told) (As := [.int 0]) (b := 125) (st := []) (d' := 99) (mc := 0) (ms := 0) (host := "") 12 rfl t_X12_told ⟨Or.inl q_12_197, i_X12_told.1, i_X12_told.2⟩ ⟨by decide, rfl⟩ (congrArg Prod.fst (F.1 125 (12, 92) rfl rfl)) rfl (by decide) rfl rfl ⟨by decide, by decide⟩ (jC.of rfl k_X12_told rfl ?_)
          show jX m_X12_told 99 0 0 0 [(0, .ref 125), (1, .int 0)] [] _ 0 0 _
          refine x_aloadn (x := 125) rfl rfl ?_
          refine x_iloadn (x := 0) rfl rfl ?_
          refine x_ifge (tgt := 9) rfl rfl (br_t (by decide) ?_)
          refine x_iconst (v := 0) rfl ki_0 ?_
          refine x_putI 12 1 rfl f_12_183 rfl (jfin_no TX12 RX12 92 rfl rfl) (congrArg Prod.fst (F.1 125 (12, 92) rfl rfl)) rfl ?_
          refine x_iloadn (x := 0) rfl rfl ?_
          refine x_iret rfl rfl ?_
          show jX m_X12_levy 100 0 0 115 [(0, .ref 125), (1, .int a1), (2, .int a2), (3, .int a3), (4, .int a4)] [.int 0] _ 0 0 _
          refine x_iret rfl rfl ?_
          exact jqe (show sp_levy a1 a2 a3 a4 = 0 by unfold sp_levy; (repeat' split) <;> first | rfl | (exfalso; omega)) (hQ _ (by repeat (first | exact O | refine jOl_si rfl ?_ | refine jOl_sl rfl ?_ | refine jOl_ci rfl ?_ | refine jOl_cl rfl ?_ | refine jOl_sr rfl ?_)))
        ·
          refine x_aloadn (x := 125) rfl rfl ?_
          refine x_iconst (v := (-1)) rfl ki_m1 ?_
          refine x_inv (N := m_X12_told) (As := [.int (-1)]) (b := 125) (st := []) (d' := 99) (mc := 0) (ms := 0) (host := "") 12 rfl t_X12_told ⟨Or.inl q_12_197, i_X12_told.1, i_X12_told.2⟩ ⟨by decide, rfl⟩ (congrArg Prod.fst (F.1 125 (12, 92) rfl rfl)) rfl (by decide) rfl rfl ⟨by decide, by decide⟩ (jC.of rfl k_X12_told rfl ?_)
          show jX m_X12_told 99 0 0 0 [(0, .ref 125), (1, .int (-1))] [] _ 0 0 _
          refine x_aloadn (x := 125) rfl rfl ?_
          refine x_iloadn (x := (-1)) rfl rfl ?_
          refine x_ifge (tgt := 9) rfl rfl (br_f (by decide) ?_)
          refine x_iloadn (x := (-1)) rfl rfl ?_
          refine x_goto (tgt := 10) rfl rfl ?_
          refine x_putI 12 1 rfl f_12_183 rfl (jfin_no TX12 RX12 92 rfl rfl) (congrArg Prod.fst (F.1 125 (12, 92) rfl rfl)) rfl ?_
          refine x_iloadn (x := (-1)) rfl rfl ?_
          refine x_iret rfl rfl ?_
          show jX m_X12_levy 100 0 0 49 [(0, .ref 125), (1, .int a1), (2, .int a2), (3, .int a3), (4, .int a4)] [.int (-1)] _ 0 0 _
          refine x_iret rfl rfl ?_
          exact jqe (show sp_levy a1 a2 a3 a4 = (-1) by unfold sp_levy; (repeat' split) <;> first | rfl | (exfalso; omega)) (hQ _ (by repeat (first | exact O | refine jOl_si rfl ?_ | refine jOl_sl rfl ?_ | refine jOl_ci rfl ?_ | refine jOl_cl rfl ?_ | refine jOl_sr rfl ?_)))
