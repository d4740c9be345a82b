def sp_feed (a1 a2 a3 a4 a5 : Int32) : Int32 := 20
def sp_end (a1 : Int32) : Int32 := if 0 ≤ a1.toInt ∧ a1.toInt ≤ 0 then a1 else (-1)
set_option maxRecDepth 100000 in
set_option maxHeartbeats 40000000 in
theorem px_end (a1 : Int32) {xs : Nat → Int32} {h : jH} {Q : Option Value → jH → Prop} (F : jFb 31 h) (O : jOl 7 xs h) (hQ : ∀ h', jFb 125 h' → jOl 7 xs h' → Q (some (.int (sp_end a1))) h') : jC m_X11_end 100 0 0 [.ref 31, .int a1] h Q := by
  have FM := jFb_up 125 rfl F
  refine jC.of rfl k_X11_end rfl ?_
  show jX m_X11_end 100 0 0 0 [(0, .ref 31), (1, .int a1)] [] _ 0 0 _
  refine x_iloadn (x := a1) rfl rfl ?_
  refine x_iflt (tgt := 15) rfl rfl (ti_lt (show (a1 : Int32).toInt = a1.toInt from rfl) (show (0 : Int32).toInt = 0 by decide) ⟨fun c1 => ?_, fun c1 => ?_⟩)
  ·
    refine x_iconst (v := (-1)) rfl ki_m1 ?_
    refine x_iret rfl rfl ?_
    exact jqe (show sp_end a1 = (-1) by unfold sp_end; (repeat' split) <;> first | rfl | (exfalso; omega)) (hQ _ (by repeat (first | exact FM | refine jFb_si rfl ?_ | refine jFb_sl rfl ?_ | refine jFb_ci rfl ?_ | refine jFb_cl rfl ?_ | refine jFb_sr rfl ?_)) (by repeat (first | exact O | refine jOl_si rfl ?_ | refine jOl_sl rfl ?_ | refine jOl_ci rfl ?_ | refine jOl_cl rfl ?_ | refine jOl_sr rfl ?_)))
  ·
    refine x_iloadn (x := a1) rfl rfl ?_
    refine x_aloadn (x := 31) rfl rfl ?_
    refine x_getR (b := 68) 11 2 rfl f_11_23 rfl (congrArg Prod.fst (F.1 31 (11, 13) rfl rfl)) (F.2.1 3970 68 rfl rfl) ?_
    refine y_getI (v := 0) 9 1 rfl f_11_106 rfl (congrArg Prod.fst (F.1 68 (9, 6) rfl rfl)) (F.2.2.1 8705 0 rfl rfl) ?_
    refine x_icle (tgt := 17) rfl rfl (ti_le (show (a1 : Int32).toInt = a1.toInt from rfl) (show (0 : Int32).toInt = 0 by decide) ⟨fun c2 => ?_, fun c2 => ?_⟩)
    ·
      refine x_aloadn (x := 31) rfl rfl ?_
      refine x_getR (b := 68) 11 2 rfl f_11_23 rfl (congrArg Prod.fst (F.1 31 (11, 13) rfl rfl)) (F.2.1 3970 68 rfl rfl) ?_
      refine x_iloadn (x := a1) rfl rfl ?_
      refine x_putI 9 1 rfl f_11_106 rfl (jfin_no TX9 RX9 6 rfl rfl) (congrArg Prod.fst (F.1 68 (9, 6) rfl rfl)) rfl ?_
      refine x_iloadn (x := a1) rfl rfl ?_
      refine x_iret rfl rfl ?_
      exact jqe (show sp_end a1 = a1 by unfold sp_end; (repeat' split) <;> first | rfl | (exfalso; omega)) (hQ _ (by repeat (first | exact FM | refine jFb_si rfl ?_ | refine jFb_sl rfl ?_ | refine jFb_ci rfl ?_ | refine jFb_cl rfl ?_ | refine jFb_sr rfl ?_)) (by repeat (first | exact O | refine jOl_si rfl ?_ | refine jOl_sl rfl ?_ | refine jOl_ci rfl ?_ | refine jOl_cl rfl ?_ | refine jOl_sr rfl ?_)))
    ·
      refine x_iconst (v := (-1)) rfl ki_m1 ?_
      refine x_iret rfl rfl ?_
      exact jqe (show sp_end a1 = (-1) by unfold sp_end; (repeat' split) <;> first | rfl | (exfalso; omega)) (hQ _ (by repeat (first | exact FM | refine jFb_si rfl ?_ | refine jFb_sl rfl ?_ | refine jFb_ci rfl ?_ | refine jFb_cl rfl ?_ | refine jFb_sr rfl ?_)) (by repeat (first | exact O | refine jOl_si rfl ?_ | refine jOl_sl rfl ?_ | refine jOl_ci rfl ?_ | refine jOl_cl rfl ?_ | refine jOl_sr rfl ?_)))
set_option maxRecDepth 100000 in
set_option maxHeartbeats 40000000 in
theorem pm_end (a1 : Int32) {xs : Nat → Int32} {h : jH} {Q : Option Value → jH → Prop} (F : jFb 125 h) (O : jOl 7 xs h) (hQ : ∀ h', jOl 7 xs h' → Q (some (.int (sp_end a1))) h') : jC m_X12_end 100 0 0 [.ref 125, .int a1] h Q := by
  refine jC.of rfl k_X12_end rfl ?_
  show jX m_X12_end 100 0 0 0 [(0, .ref 125), (1, .int a1)] [] _ 0 0 _
  refine x_aloadn (x := 125) rfl rfl ?_
  refine x_iconst (v := 0) rfl ki_0 ?_
  refine x_putI 12 0 rfl f_12_180 rfl (jfin_no TX12 RX12 92 rfl rfl) (congrArg Prod.fst (F.1 125 (12, 92) rfl rfl)) rfl ?_
  refine x_iloadn (x := a1) rfl rfl ?_
  refine x_iflt (tgt := 17) rfl rfl (ti_lt (show (a1 : Int32).toInt = a1.toInt from rfl) (show (0 : Int32).toInt = 0 by decide) ⟨fun c1 => ?_, fun c1 => ?_⟩)
  ·
    refine x_iconst (v := (-1)) rfl ki_m1 ?_
    refine x_iret rfl rfl ?_
    exact jqe (show sp_end a1 = (-1) by unfold sp_end; (repeat' split) <;> first | rfl | (exfalso; omega)) (hQ _ (by repeat (first | exact O | refine jOl_si rfl ?_ | refine jOl_sl rfl ?_ | refine jOl_ci rfl ?_ | refine jOl_cl rfl ?_ | refine jOl_sr rfl ?_)))
  ·
    refine x_iloadn (x := a1) rfl rfl ?_
    refine x_aloadn (x := 125) rfl rfl ?_
    refine y_getI (v := 0) 12 8 rfl f_12_201 rfl (congrArg Prod.fst (F.1 125 (12, 92) rfl rfl)) (F.2.2.1 16008 0 rfl rfl) ?_
    refine x_icle (tgt := 19) rfl rfl (ti_le (show (a1 : Int32).toInt = a1.toInt from rfl) (show (0 : Int32).toInt = 0 by decide) ⟨fun c2 => ?_, fun c2 => ?_⟩)
    ·
      refine x_aloadn (x := 125) rfl rfl ?_
      refine x_iloadn (x := a1) rfl rfl ?_
      refine x_putI 12 8 rfl f_12_201 rfl (jfin_no TX12 RX12 92 rfl rfl) (congrArg Prod.fst (F.1 125 (12, 92) rfl rfl)) rfl ?_
      refine x_iloadn (x := a1) rfl rfl ?_
      refine x_iret rfl rfl ?_
      exact jqe (show sp_end a1 = a1 by unfold sp_end; (repeat' split) <;> first | rfl | (exfalso; omega)) (hQ _ (by repeat (first | exact O | refine jOl_si rfl ?_ | refine jOl_sl rfl ?_ | refine jOl_ci rfl ?_ | refine jOl_cl rfl ?_ | refine jOl_sr rfl ?_)))
    ·
      refine x_iconst (v := (-1)) rfl ki_m1 ?_
      refine x_iret rfl rfl ?_
      exact jqe (show sp_end a1 = (-1) by unfold sp_end; (repeat' split) <;> first | rfl | (exfalso; omega)) (hQ _ (by repeat (first | exact O | refine jOl_si rfl ?_ | refine jOl_sl rfl ?_ | refine jOl_ci rfl ?_ | refine jOl_cl rfl ?_ | refine jOl_sr rfl ?_)))
def sp_fault : Int32 := (-1)
set_option maxRecDepth 100000 in
set_option maxHeartbeats 40000000 in
theorem px_fault {xs : Nat → Int32} {h : jH} {Q : Option Value → jH → Prop} (F : jFb 31 h) (O : jOl 7 xs h) (hQ : ∀ h', jFb 125 h' → jOl 7 xs h' → Q (some (.int (sp_fault))) h') : jC m_X11_fault 100 0 0 [.ref 31] h Q := by
  have FM := jFb_up 125 rfl F
  refine jC.of rfl k_X11_fault rfl ?_
  show jX m_X11_fault 100 0 0 0 [(0, .ref 31)] [] _ 0 0 _
  refine x_aloadn (x := 31) rfl rfl ?_
  refine x_getR (b := 68) 11 2 rfl f_11_23 rfl (congrArg Prod.fst (F.1 31 (11, 13) rfl rfl)) (F.2.1 3970 68 rfl rfl) ?_
  refine y_getI (v := (-1)) 9 2 rfl f_11_109 rfl (congrArg Prod.fst (F.1 68 (9, 6) rfl rfl)) (F.2.2.1 8706 (-1) rfl rfl) ?_
  refine x_iret rfl rfl ?_
  exact jqe (show sp_fault = (-1) by unfold sp_fault; (repeat' split) <;> first | rfl | (exfalso; omega)) (hQ _ (by repeat (first | exact FM | refine jFb_si rfl ?_ | refine jFb_sl rfl ?_ | refine jFb_ci rfl ?_ | refine jFb_cl rfl ?_ | refine jFb_sr rfl ?_)) (by repeat (first | exact O | refine jOl_si rfl ?_ | refine jOl_sl rfl ?_ | refine jOl_ci rfl ?_ | refine jOl_cl rfl ?_ | refine jOl_sr rfl ?_)))
set_option maxRecDepth 100000 in
set_option maxHeartbeats 40000000 in
theorem pm_fault {xs : Nat → Int32} {h : jH} {Q : Option Value → jH → Prop} (F : jFb 125 h) (O : jOl 7 xs h) (hQ : ∀ h', jOl 7 xs h' → Q (some (.int (sp_fault))) h') : jC m_X12_fault 100 0 0 [.ref 125] h Q := by
  refine jC.of rfl k_X12_fault rfl ?_
  show jX m_X12_fault 100 0 0 0 [(0, .ref 125)] [] _ 0 0 _
  refine x_aloadn (x := 125) rfl rfl ?_
  refine x_iconst (v := 0) rfl ki_0 ?_
  refine x_putI 12 0 rfl f_12_180 rfl (jfin_no TX12 RX12 92 rfl rfl) (congrArg Prod.fst (F.1 125 (12, 92) rfl rfl)) rfl ?_
  refine x_aloadn (x := 125) rfl rfl ?_
  refine y_getI (v := (-1)) 12 13 rfl f_12_32 rfl (congrArg Prod.fst (F.1 125 (12, 92) rfl rfl)) (F.2.2.1 16013 (-1) rfl rfl) ?_
  refine x_iret rfl rfl ?_
  exact jqe (show sp_fault = (-1) by unfold sp_fault; (repeat' split) <;> first | rfl | (exfalso; omega)) (hQ _ (by repeat (first | exact O | refine jOl_si rfl ?_ | refine jOl_sl rfl ?_ | refine jOl_ci rfl ?_ | refine jOl_cl rfl ?_ | refine jOl_sr rfl ?_)))
def sp_line (a1 a2 a3 a4 a5 : Int32) : Int32 := if (0 ≤ a1.toInt ∧ a1.toInt ≤ 5) ∧ (0 ≤ a2.toInt ∧ a2.toInt ≤ 15) ∧ (0 ≤ a3.toInt ∧ a3.toInt ≤ 146399) ∧ (0 ≤ a4.toInt ∧ a4.toInt ≤ 146399) ∧ ((a1.toInt = 2 ∧ -1 ≤ a5.toInt ∧ a5.toInt ≤ 120) ∨ ((a1.toInt = 3 ∨ a1.toInt = 4) ∧ 0 ≤ a5.toInt ∧ a5.toInt ≤ 100000) ∨ (a1.toInt = 5 ∧ 1 ≤ a5.toInt ∧ a5.toInt ≤ 11) ∨ (a1.toInt < 2 ∧ a5.toInt = -1)) then 0 else (-1)
set_option maxRecDepth 100000 in
set_option maxHeartbeats 40000000 in
theorem pm_line (a1 a2 a3 a4 a5 : Int32) {xs : Nat → Int32} {h : jH} {Q : Option Value → jH → Prop} (F : jFb 125 h) (O : jOl 7 xs h) (hQ : ∀ h', jOl 7 xs h' → Q (some (.int (sp_line a1 a2 a3 a4 a5))) h') : jC m_X12_line 100 0 0 [.ref 125, .int a1, .int a2, .int a3, .int a4, .int a5] h Q := by
  refine jC.of rfl k_X12_line rfl ?_
  show jX m_X12_line 100 0 0 0 [(0, .ref 125), (1, .int a1), (2, .int a2), (3, .int a3), (4, .int a4), (5, .int a5)] [] _ 0 0 _
  refine x_aloadn (x := 125) rfl rfl ?_
  refine x_iconst (v := 0) rfl ki_0 ?_
  refine x_putI 12 0 rfl f_12_180 rfl (jfin_no TX12 RX12 92 rfl rfl) (congrArg Prod.fst (F.1 125 (12, 92) rfl rfl)) rfl ?_
  refine x_iloadn (x := a1) rfl rfl ?_
  refine x_i2l rfl ?_
  refine x_lconst (v := 0) rfl kl_0 ?_
  refine x_ldc2 (v := 5) rfl z_12_269 ?_
  refine x_inst (N := m_X12_in) (As := [.long (a1.toInt64), .long 0, .long 5]) (st := []) (d' := 99) (mc := 0) (ms := 0) (host := "") rfl t_X12_in ⟨Or.inl q_12_188, s_X12_in⟩ rfl (by decide) rfl rfl ⟨by decide, by decide⟩ (c_X12_in (jt_l _) (by decide) (by decide) ?_)
  show jX m_X12_line 100 0 0 14 [(0, .ref 125), (1, .int a1), (2, .int a2), (3, .int a3), (4, .int a4), (5, .int a5)] [.int (jp (0 ≤ a1.toInt ∧ a1.toInt ≤ 5))] _ 0 0 _
  refine x_ifeq (tgt := 57) rfl rfl (jpe ⟨fun c1 => ?_, fun c1 => ?_⟩)
  ·
    refine x_iconst (v := 0) rfl ki_0 ?_
    refine x_istore (ls' := [(6, .int 0), (0, .ref 125), (1, .int a1), (2, .int a2), (3, .int a3), (4, .int a4), (5, .int a5)]) rfl rfl rfl ?_
    refine x_iload (x := 0) rfl rfl ?_
    refine x_ifeq (tgt := 77) rfl rfl (br_t (by decide) ?_)
    refine x_aloadn (x := 125) rfl rfl ?_
    refine x_iconst (v := 0) rfl ki_0 ?_
    refine x_putI 12 8 rfl f_12_201 rfl (jfin_no TX12 RX12 92 rfl rfl) (congrArg Prod.fst (F.1 125 (12, 92) rfl rfl)) rfl ?_
    refine x_aloadn (x := 125) rfl rfl ?_
    refine x_iload (x := 0) rfl rfl ?_
    refine x_ifeq (tgt := 93) rfl rfl (br_t (by decide) ?_)
    refine x_iconst (v := (-1)) rfl ki_m1 ?_
    refine x_inv (N := m_X12_told) (As := [.int (-1)]) (b := 125) (st := []) (d' := 99) (mc := 0) (ms := 0) (host := "") 12 rfl t_X12_told ⟨Or.inl q_12_197, i_X12_told.1, i_X12_told.2⟩ ⟨by decide, rfl⟩ (congrArg Prod.fst (F.1 125 (12, 92) rfl rfl)) rfl (by decide) rfl rfl ⟨by decide, by decide⟩ (jC.of rfl k_X12_told rfl ?_)
    show jX m_X12_told 99 0 0 0 [(0, .ref 125), (1, .int (-1))] [] _ 0 0 _
    refine x_aloadn (x := 125) rfl rfl ?_
    refine x_iloadn (x := (-1)) rfl rfl ?_
    refine x_ifge (tgt := 9) rfl rfl (br_f (by decide) ?_)
    refine x_iloadn (x := (-1)) rfl rfl ?_
    refine x_goto (tgt := 10) rfl rfl ?_
    refine x_putI 12 1 rfl f_12_183 rfl (jfin_no TX12 RX12 92 rfl rfl) (congrArg Prod.fst (F.1 125 (12, 92) rfl rfl)) rfl ?_
    refine x_iloadn (x := (-1)) rfl rfl ?_
    refine x_iret rfl rfl ?_
    show jX m_X12_line 100 0 0 97 [(6, .int 0), (0, .ref 125), (1, .int a1), (2, .int a2), (3, .int a3), (4, .int a4), (5, .int a5)] [.int (-1)] _ 0 0 _
    refine x_iret rfl rfl ?_
    exact jqe (show sp_line a1 a2 a3 a4 a5 = (-1) by unfold sp_line; (repeat' split) <;> first | rfl | (exfalso; omega)) (hQ _ (by repeat (first | exact O | refine jOl_si rfl ?_ | refine jOl_sl rfl ?_ | refine jOl_ci rfl ?_ | refine jOl_cl rfl ?_ | refine jOl_sr rfl ?_)))
  ·
    refine x_iloadn (x := a2) rfl rfl ?_
    refine x_i2l rfl ?_
    refine x_lconst (v := 0) rfl kl_0 ?_
    refine x_ldc2 (v := 15) rfl z_12_271 ?_
    refine x_inst (N := m_X12_in) (As := [.long (a2.toInt64), .long 0, .long 15]) (st := []) (d' := 99) (mc := 0) (ms := 0) (host := "") rfl t_X12_in ⟨Or.inl q_12_188, s_X12_in⟩ rfl (by decide) rfl rfl ⟨by decide, by decide⟩ (c_X12_in (jt_l _) (by decide) (by decide) ?_)
    show jX m_X12_line 100 0 0 26 [(0, .ref 125), (1, .int a1), (2, .int a2), (3, .int a3), (4, .int a4), (5, .int a5)] [.int (jp (0 ≤ a2.toInt ∧ a2.toInt ≤ 15))] _ 0 0 _
    refine x_ifeq (tgt := 57) rfl rfl (jpe ⟨fun c2 => ?_, fun c2 => ?_⟩)
    ·
      refine x_iconst (v := 0) rfl ki_0 ?_
      refine x_istore (ls' := [(6, .int 0), (0, .ref 125), (1, .int a1), (2, .int a2), (3, .int a3), (4, .int a4), (5, .int a5)]) rfl rfl rfl ?_
      refine x_iload (x := 0) rfl rfl ?_
      refine x_ifeq (tgt := 77) rfl rfl (br_t (by decide) ?_)
      refine x_aloadn (x := 125) rfl rfl ?_
      refine x_iconst (v := 0) rfl ki_0 ?_
      refine x_putI 12 8 rfl f_12_201 rfl (jfin_no TX12 RX12 92 rfl rfl) (congrArg Prod.fst (F.1 125 (12, 92) rfl rfl)) rfl ?_
      refine x_aloadn (x := 125) rfl rfl ?_
      refine x_iload (x := 0) rfl rfl ?_
      refine x_ifeq (tgt := 93) rfl rfl (br_t (by decide) ?_)
      refine x_iconst (v := (-1)) rfl ki_m1 ?_
      refine x_inv (N := m_X12_told) (As := [.int (-1)]) (b := 125) (st := []) (d' := 99) (mc := 0) (ms := 0) (host := "") 12 rfl t_X12_told ⟨Or.inl q_12_197, i_X12_told.1, i_X12_told.2⟩ ⟨by decide, rfl⟩ (congrArg Prod.fst (F.1 125 (12, 92) rfl rfl)) rfl (by decide) rfl rfl ⟨by decide, by decide⟩ (jC.of rfl k_X12_told rfl ?_)
      show jX m_X12_told 99 0 0 0 [(0, .ref 125), (1, .int (-1))] [] _ 0 0 _
      refine x_aloadn (x := 125) rfl rfl ?_
      refine x_iloadn (x := (-1)) rfl rfl ?_
      refine x_ifge (tgt := 9) rfl rfl (br_f (by decide) ?_)
      refine x_iloadn (x := (-1)) rfl rfl ?_
      refine x_goto (tgt := 10) rfl rfl ?_
      refine x_putI 12 1 rfl f_12_183 rfl (jfin_no TX12 RX12 92 rfl rfl) (congrArg Prod.fst (F.1 125 (12, 92) rfl rfl)) rfl ?_
      refine x_iloadn (x := (-1)) rfl rfl ?_
      refine x_iret rfl rfl ?_
      show jX m_X12_line 100 0 0 97 [(6, .int 0), (0, .ref 125), (1, .int a1), (2, .int a2), (3, .int a3), (4, .int a4), (5, .int a5)] [.int (-1)] _ 0 0 _
      refine x_iret rfl rfl ?_
      exact jqe (show sp_line a1 a2 a3 a4 a5 = (-1) by unfold sp_line; (repeat' split) <;> first | rfl | (exfalso; omega)) (hQ _ (by repeat (first | exact O | refine jOl_si rfl ?_ | refine jOl_sl rfl ?_ | refine jOl_ci rfl ?_ | refine jOl_cl rfl ?_ | refine jOl_sr rfl ?_)))
    ·
      refine x_iloadn (x := a3) rfl rfl ?_
      refine x_inst (N := m_X12_isDay) (As := [.int a3]) (st := []) (d' := 99) (mc := 0) (ms := 0) (host := "") rfl t_X12_isDay ⟨Or.inl q_12_273, s_X12_isDay⟩ rfl (by decide) rfl rfl ⟨by decide, by decide⟩ (c_X12_isDay (x := a3) ?_)
      show jX m_X12_line 100 0 0 33 [(0, .ref 125), (1, .int a1), (2, .int a2), (3, .int a3), (4, .int a4), (5, .int a5)] [.int (jp (0 ≤ a3.toInt ∧ a3.toInt ≤ 146399))] _ 0 0 _
      refine x_ifeq (tgt := 57) rfl rfl (jpe ⟨fun c3 => ?_, fun c3 => ?_⟩)
      ·
        refine x_iconst (v := 0) rfl ki_0 ?_
        refine x_istore (ls' := [(6, .int 0), (0, .ref 125), (1, .int a1), (2, .int a2), (3, .int a3), (4, .int a4), (5, .int a5)]) rfl rfl rfl ?_
        refine x_iload (x := 0) rfl rfl ?_
        refine x_ifeq (tgt := 77) rfl rfl (br_t (by decide) ?_)
        refine x_aloadn (x := 125) rfl rfl ?_
        refine x_iconst (v := 0) rfl ki_0 ?_
        refine x_putI 12 8 rfl f_12_201 rfl (jfin_no TX12 RX12 92 rfl rfl) (congrArg Prod.fst (F.1 125 (12, 92) rfl rfl)) rfl ?_
        refine x_aloadn (x := 125) rfl rfl ?_
        refine x_iload (x := 0) rfl rfl ?_
        refine x_ifeq (tgt := 93) rfl rfl (br_t (by decide) ?_)
        refine x_iconst (v := (-1)) rfl ki_m1 ?_
        refine x_inv (N := m_X12_told) (As := [.int (-1)]) (b := 125) (st := []) (d' := 99) (mc := 0) (ms := 0) (host := "") 12 rfl t_X12_told ⟨Or.inl q_12_197, i_X12_told.1, i_X12_told.2⟩ ⟨by decide, rfl⟩ (congrArg Prod.fst (F.1 125 (12, 92) rfl rfl)) rfl (by decide) rfl rfl ⟨by decide, by decide⟩ (jC.of rfl k_X12_told rfl ?_)
        show jX m_X12_told 99 0 0 0 [(0, .ref 125), (1, .int (-1))] [] _ 0 0 _
        refine x_aloadn (x := 125) rfl rfl ?_
        refine x_iloadn (x := (-1)) rfl rfl ?_
        refine x_ifge (tgt := 9) rfl rfl (br_f (by decide) ?_)
        refine x_iloadn (x := (-1)) rfl rfl ?_
        refine x_goto (tgt := 10) rfl rfl ?_
        refine x_putI 12 1 rfl f_12_183 rfl (jfin_no TX12 RX12 92 rfl rfl) (congrArg Prod.fst (F.1 125 (12, 92) rfl rfl)) rfl ?_
        refine x_iloadn (x := (-1)) rfl rfl ?_
        refine x_iret rfl rfl ?_
        show jX m_X12_line 100 0 0 97 [(6, .int 0), (0, .ref 125), (1, .int a1), (2, .int a2), (3, .int a3), (4, .int a4), (5, .int a5)] [.int (-1)] _ 0 0 _
        refine x_iret rfl rfl ?_
        exact jqe (show sp_line a1 a2 a3 a4 a5 = (-1) by unfold sp_line; (repeat' split) <;> first | rfl | (exfalso; omega)) (hQ _ (by repeat (first | exact O | refine jOl_si rfl ?_ | refine jOl_sl rfl ?_ | refine jOl_ci rfl ?_ | refine jOl_cl rfl ?_ | refine jOl_sr rfl ?_)))
      ·
        refine x_iload (x := a4) rfl rfl ?_
        refine x_inst (N := m_X12_isDay) (As := [.int a4]) (st := []) (d' := 99) (mc := 0) (ms := 0) (host := "") rfl t_X12_isDay ⟨Or.inl q_12_273, s_X12_isDay⟩ rfl (by decide) rfl rfl ⟨by decide, by decide⟩ (c_X12_isDay (x := a4) ?_)
        show jX m_X12_line 100 0 0 41 [(0, .ref 125), (1, .int a1), (2, .int a2), (3, .int a3), (4, .int a4), (5, .int a5)] [.int (jp (0 ≤ a4.toInt ∧ a4.toInt ≤ 146399))] _ 0 0 _
        refine x_ifeq (tgt := 57) rfl rfl (jpe ⟨fun c4 => ?_, fun c4 => ?_⟩)
        ·
          refine x_iconst (v := 0) rfl ki_0 ?_
          refine x_istore (ls' := [(6, .int 0), (0, .ref 125), (1, .int a1), (2, .int a2), (3, .int a3), (4, .int a4), (5, .int a5)]) rfl rfl rfl ?_
          refine x_iload (x := 0) rfl rfl ?_
          refine x_ifeq (tgt := 77) rfl rfl (br_t (by decide) ?_)
          refine x_aloadn (x := 125) rfl rfl ?_
          refine x_iconst (v := 0) rfl ki_0 ?_
          refine x_putI 12 8 rfl f_12_201 rfl (jfin_no TX12 RX12 92 rfl rfl) (congrArg Prod.fst (F.1 125 (12, 92) rfl rfl)) rfl ?_
          refine x_aloadn (x := 125) rfl rfl ?_
          refine x_iload (x := 0) rfl rfl ?_
          refine x_ifeq (tgt := 93) rfl rfl (br_t (by decide) ?_)
          refine x_iconst (v := (-1)) rfl ki_m1 ?_
          refine x_inv (N := m_X12_told) (As := [.int (-1)]) (b := 125) (st := []) (d' := 99) (mc := 0) (ms := 0) (host := "") 12 rfl t_X12_told ⟨Or.inl q_12_197, i_X12_told.1, i_X12_told.2⟩ ⟨by decide, rfl⟩ (congrArg Prod.fst (F.1 125 (12, 92) rfl rfl)) rfl (by decide) rfl rfl ⟨by decide, by decide⟩ (jC.of rfl k_X12_told rfl ?_)
          show jX m_X12_told 99 0 0 0 [(0, .ref 125), (1, .int (-1))] [] _ 0 0 _
          refine x_aloadn (x := 125) rfl rfl ?_
          refine x_iloadn (x := (-1)) rfl rfl ?_
          refine x_ifge (tgt := 9) rfl rfl (br_f (by decide) ?_)
          refine x_iloadn (x := (-1)) rfl rfl ?_
          refine x_goto (tgt := 10) rfl rfl ?_
          refine x_putI 12 1 rfl f_12_183 rfl (jfin_no TX12 RX12 92 rfl rfl) (congrArg Prod.fst (F.1 125 (12, 92) rfl rfl)) rfl ?_
          refine x_iloadn (x := (-1)) rfl rfl ?_
          refine x_iret rfl rfl ?_
          show jX m_X12_line 100 0 0 97 [(6, .int 0), (0, .ref 125), (1, .int a1), (2, .int a2), (3, .int a3), (4, .int a4), (5, .int a5)] [.int (-1)] _ 0 0 _
          refine x_iret rfl rfl ?_
          exact jqe (show sp_line a1 a2 a3 a4 a5 = (-1) by unfold sp_line; (repeat' split) <;> first | rfl | (exfalso; omega)) (hQ _ (by repeat (first | exact O | refine jOl_si rfl ?_ | refine jOl_sl rfl ?_ | refine jOl_ci rfl ?_ | refine jOl_cl rfl ?_ | refine jOl_sr rfl ?_)))
        ·
          refine x_iloadn (x := a1) rfl rfl ?_
          refine x_iload (x := a5) rfl rfl ?_
          refine x_inst (N := m_X12_isNumber) (As := [.int a1, .int a5]) (st := []) (d' := 99) (mc := 0) (ms := 0) (host := "") rfl t_X12_isNumber ⟨Or.inl q_12_276, s_X12_isNumber⟩ rfl (by decide) rfl rfl ⟨by decide, by decide⟩ (jC.of rfl k_X12_isNumber rfl ?_)
          show jX m_X12_isNumber 99 0 0 0 [(0, .int a1), (1, .int a5)] [] _ 0 0 _
          refine x_iloadn (x := a1) rfl rfl ?_
          by_cases c5 : a1.toInt = 2
          ·
            refine x_tableIn (tgt := 32) 2 rfl c5 (by decide) (by decide) rfl rfl ?_
            refine x_iloadn (x := a5) rfl rfl ?_
            refine x_i2l rfl ?_
            refine x_ldc2 (v := (-1)) rfl z_12_242 ?_
            refine x_ldc2 (v := 120) rfl z_12_263 ?_
            refine x_inst (N := m_X12_in) (As := [.long (a5.toInt64), .long (-1), .long 120]) (st := []) (d' := 98) (mc := 0) (ms := 0) (host := "") rfl t_X12_in ⟨Or.inl q_12_188, s_X12_in⟩ rfl (by decide) rfl rfl ⟨by decide, by decide⟩ (c_X12_in (jt_l _) (by decide) (by decide) ?_)
            show jX m_X12_isNumber 99 0 0 43 [(0, .int a1), (1, .int a5)] [.int (jp ((-1) ≤ a5.toInt ∧ a5.toInt ≤ 120))] _ 0 0 _
            refine x_zret rfl rfl (by first | decide | exact jp_01 _) ?_
            show jX m_X12_line 100 0 0 50 [(0, .ref 125), (1, .int a1), (2, .int a2), (3, .int a3), (4, .int a4), (5, .int a5)] [.int (jp ((-1) ≤ a5.toInt ∧ a5.toInt ≤ 120))] _ 0 0 _
            refine x_ifeq (tgt := 57) rfl rfl (jpe ⟨fun c6 => ?_, fun c6 => ?_⟩)
            ·
              refine x_iconst (v := 0) rfl ki_0 ?_
              refine x_istore (ls' := [(6, .int 0), (0, .ref 125), (1, .int a1), (2, .int a2), (3, .int a3), (4, .int a4), (5, .int a5)]) rfl rfl rfl ?_
              refine x_iload (x := 0) rfl rfl ?_
              refine x_ifeq (tgt := 77) rfl rfl (br_t (by decide) ?_)
              refine x_aloadn (x := 125) rfl rfl ?_
              refine x_iconst (v := 0) rfl ki_0 ?_
              refine x_putI 12 8 rfl f_12_201 rfl (jfin_no TX12 RX12 92 rfl rfl) (congrArg Prod.fst (F.1 125 (12, 92) rfl rfl)) rfl ?_
              refine x_aloadn (x := 125) rfl rfl ?_
              refine x_iload (x := 0) rfl rfl ?_
              refine x_ifeq (tgt := 93) rfl rfl (br_t (by decide) ?_)
              refine x_iconst (v := (-1)) rfl ki_m1 ?_
              refine x_inv (N := m_X12_told) (As := [.int (-1)]) (b := 125) (st := []) (d' := 99) (mc := 0) (ms := 0) (host := "") 12 rfl t_X12_told ⟨Or.inl q_12_197, i_X12_told.1, i_X12_told.2⟩ ⟨by decide, rfl⟩ (congrArg Prod.fst (F.1 125 (12, 92) rfl rfl)) rfl (by decide) rfl rfl ⟨by decide, by decide⟩ (jC.of rfl k_X12_told rfl ?_)
              show jX m_X12_told 99 0 0 0 [(0, .ref 125), (1, .int (-1))] [] _ 0 0 _
              refine x_aloadn (x := 125) rfl rfl ?_
              refine x_iloadn (x := (-1)) rfl rfl ?_
              refine x_ifge (tgt := 9) rfl rfl (br_f (by decide) ?_)
              refine x_iloadn (x := (-1)) rfl rfl ?_
              refine x_goto (tgt := 10) rfl rfl ?_
              refine x_putI 12 1 rfl f_12_183 rfl (jfin_no TX12 RX12 92 rfl rfl) (congrArg Prod.fst (F.1 125 (12, 92) rfl rfl)) rfl ?_
              refine x_iloadn (x := (-1)) rfl rfl ?_
              refine x_iret rfl rfl ?_
              show jX m_X12_line 100 0 0 97 [(6, .int 0), (0, .ref 125), (1, .int a1), (2, .int a2), (3, .int a3), (4, .int a4), (5, .int a5)] [.int (-1)] _ 0 0 _
              refine x_iret rfl rfl ?_
              exact jqe (show sp_line a1 a2 a3 a4 a5 = (-1) by unfold sp_line; (repeat' split) <;> first | rfl | (exfalso; omega)) (hQ _ (by repeat (first | exact O | refine jOl_si rfl ?_ | refine jOl_sl rfl ?_ | refine jOl_ci rfl ?_ | refine jOl_cl rfl ?_ | refine jOl_sr rfl ?_)))
            ·
              refine x_iconst (v := 1) rfl ki_1 ?_
              refine x_goto (tgt := 58) rfl rfl ?_
              refine x_istore (ls' := [(6, .int 1), (0, .ref 125), (1, .int a1), (2, .int a2), (3, .int a3), (4, .int a4), (5, .int a5)]) rfl rfl rfl ?_
              refine x_iload (x := 1) rfl rfl ?_
              refine x_ifeq (tgt := 77) rfl rfl (br_f (by decide) ?_)
              refine x_aloadn (x := 125) rfl rfl ?_
              refine x_getR (b := 126) 12 2 rfl f_12_8 rfl (congrArg Prod.fst (F.1 125 (12, 92) rfl rfl)) (F.2.1 16002 126 rfl rfl) ?_
              refine x_iconst (v := 0) rfl ki_0 ?_
              refine y_iald (v := 0) (N := 50660) 0 rfl (F.1 126 (100, 50660) rfl rfl) (jinb_of (by decide)) (by decide) (F.2.2.2.1 126 rfl rfl 0).1 ?_
              refine x_sipush (v := 200) rfl ks_200 ?_
              refine x_icne (tgt := 98) rfl rfl (bn_t (by decide) ?_)
              refine x_aloadn (x := 125) rfl rfl ?_
              refine x_getR (b := 126) 12 2 rfl f_12_8 rfl (congrArg Prod.fst (F.1 125 (12, 92) rfl rfl)) (F.2.1 16002 126 rfl rfl) ?_
              refine x_iconst (v := 0) rfl ki_0 ?_
              refine y_iald (v := 0) (N := 50660) 0 rfl (F.1 126 (100, 50660) rfl rfl) (jinb_of (by decide)) (by decide) (F.2.2.2.1 126 rfl rfl 0).1 ?_
              refine x_istore (ls' := [(7, .int 0), (6, .int 1), (0, .ref 125), (1, .int a1), (2, .int a2), (3, .int a3), (4, .int a4), (5, .int a5)]) rfl rfl rfl ?_
              refine x_aloadn (x := 125) rfl rfl ?_
              refine x_iload (x := 0) rfl rfl ?_
              refine x_inv (N := m_X12_at) (As := [.int 0]) (b := 125) (st := []) (d' := 99) (mc := 0) (ms := 0) (host := "") 12 rfl t_X12_at ⟨Or.inl q_12_254, i_X12_at.1, i_X12_at.2⟩ ⟨by decide, rfl⟩ (congrArg Prod.fst (F.1 125 (12, 92) rfl rfl)) rfl (by decide) rfl rfl ⟨by decide, by decide⟩ (jC.of rfl k_X12_at rfl ?_)
              show jX m_X12_at 99 0 0 0 [(0, .ref 125), (1, .int 0)] [] _ 0 0 _
              refine x_bipush (v := 20) rfl kb_20 ?_
              refine x_bipush (v := 90) rfl kb_90 ?_
              refine x_iloadn (x := 0) rfl rfl ?_
              refine y_imul (v := 0) rfl (by decide) ?_
              refine y_iadd (v := 20) rfl (by decide) ?_
              refine x_iret rfl rfl ?_
              show jX m_X12_line 100 0 0 112 [(7, .int 0), (6, .int 1), (0, .ref 125), (1, .int a1), (2, .int a2), (3, .int a3), (4, .int a4), (5, .int a5)] [.int 20] _ 0 0 _
              refine x_istore (ls' := [(8, .int 20), (7, .int 0), (6, .int 1), (0, .ref 125), (1, .int a1), (2, .int a2), (3, .int a3), (4, .int a4), (5, .int a5)]) rfl rfl rfl ?_
              refine x_iconst (v := 0) rfl ki_0 ?_
              refine x_istore (ls' := [(9, .int 0), (8, .int 20), (7, .int 0), (6, .int 1), (0, .ref 125), (1, .int a1), (2, .int a2), (3, .int a3), (4, .int a4), (5, .int a5)]) rfl rfl rfl ?_
              refine x_iload (x := 0) rfl rfl ?_
              refine x_bipush (v := 90) rfl kb_90 ?_
              refine x_icge (tgt := 141) rfl rfl (br_f (by decide) ?_)
              refine x_aloadn (x := 125) rfl rfl ?_
              refine x_getR (b := 126) 12 2 rfl f_12_8 rfl (congrArg Prod.fst (F.1 125 (12, 92) rfl rfl)) (F.2.1 16002 126 rfl rfl) ?_
              refine x_iload (x := 20) rfl rfl ?_
              refine x_iload (x := 0) rfl rfl ?_
              refine y_iadd (v := 20) rfl (by decide) ?_
              refine x_iconst (v := 0) rfl ki_0 ?_
              refine y_iast (N := 50660) 20 rfl (F.1 126 (100, 50660) rfl rfl) rfl (jinb_of (by decide)) (by decide) ?_
              refine x_iinc (x := 0) (v := 1) (ls' := [(9, .int 1), (8, .int 20), (7, .int 0), (6, .int 1), (0, .ref 125), (1, .int a1), (2, .int a2), (3, .int a3), (4, .int a4), (5, .int a5)]) rfl rfl (by decide) rfl rfl ?_
              refine x_goto (tgt := 117) rfl rfl ?_
              refine x_iload (x := 1) rfl rfl ?_
              refine x_bipush (v := 90) rfl kb_90 ?_
              refine x_icge (tgt := 141) rfl rfl (br_f (by decide) ?_)
              refine x_aloadn (x := 125) rfl rfl ?_
              refine x_getR (b := 126) 12 2 rfl f_12_8 rfl (congrArg Prod.fst (F.1 125 (12, 92) rfl rfl)) (F.2.1 16002 126 rfl rfl) ?_
              refine x_iload (x := 20) rfl rfl ?_
              refine x_iload (x := 1) rfl rfl ?_
              refine y_iadd (v := 21) rfl (by decide) ?_
              refine x_iconst (v := 0) rfl ki_0 ?_
              refine y_iast (N := 50660) 21 rfl (F.1 126 (100, 50660) rfl rfl) rfl (jinb_of (by decide)) (by decide) ?_
              refine x_iinc (x := 1) (v := 2) (ls' := [(9, .int 2), (8, .int 20), (7, .int 0), (6, .int 1), (0, .ref 125), (1, .int a1), (2, .int a2), (3, .int a3), (4, .int a4), (5, .int a5)]) rfl rfl (by decide) rfl rfl ?_
              refine x_goto (tgt := 117) rfl rfl ?_
              refine x_iload (x := 2) rfl rfl ?_
              refine x_bipush (v := 90) rfl kb_90 ?_
              refine x_icge (tgt := 141) rfl rfl (br_f (by decide) ?_)
              refine x_aloadn (x := 125) rfl rfl ?_
              refine x_getR (b := 126) 12 2 rfl f_12_8 rfl (congrArg Prod.fst (F.1 125 (12, 92) rfl rfl)) (F.2.1 16002 126 rfl rfl) ?_
              refine x_iload (x := 20) rfl rfl ?_
              refine x_iload (x := 2) rfl rfl ?_
              refine y_iadd (v := 22) rfl (by decide) ?_
              refine x_iconst (v := 0) rfl ki_0 ?_
              refine y_iast (N := 50660) 22 rfl (F.1 126 (100, 50660) rfl rfl) rfl (jinb_of (by decide)) (by decide) ?_
              refine x_iinc (x := 2) (v := 3) (ls' := [(9, .int 3), (8, .int 20), (7, .int 0), (6, .int 1), (0, .ref 125), (1, .int a1), (2, .int a2), (3, .int a3), (4, .int a4), (5, .int a5)]) rfl rfl (by decide) rfl rfl ?_
              refine x_goto (tgt := 117) rfl rfl ?_
              refine x_iload (x := 3) rfl rfl ?_
              refine x_bipush (v := 90) rfl kb_90 ?_
              refine x_icge (tgt := 141) rfl rfl (br_f (by decide) ?_)
              refine x_aloadn (x := 125) rfl rfl ?_
              refine x_getR (b := 126) 12 2 rfl f_12_8 rfl (congrArg Prod.fst (F.1 125 (12, 92) rfl rfl)) (F.2.1 16002 126 rfl rfl) ?_
              refine x_iload (x := 20) rfl rfl ?_
              refine x_iload (x := 3) rfl rfl ?_
              refine y_iadd (v := 23) rfl (by decide) ?_
              refine x_iconst (v := 0) rfl ki_0 ?_
              refine y_iast (N := 50660) 23 rfl (F.1 126 (100, 50660) rfl rfl) rfl (jinb_of (by decide)) (by decide) ?_
              refine x_iinc (x := 3) (v := 4) (ls' := [(9, .int 4), (8, .int 20), (7, .int 0), (6, .int 1), (0, .ref 125), (1, .int a1), (2, .int a2), (3, .int a3), (4, .int a4), (5, .int a5)]) rfl rfl (by decide) rfl rfl ?_
              refine x_goto (tgt := 117) rfl rfl ?_
              refine x_iload (x := 4) rfl rfl ?_
              refine x_bipush (v := 90) rfl kb_90 ?_
              refine x_icge (tgt := 141) rfl rfl (br_f (by decide) ?_)
              refine x_aloadn (x := 125) rfl rfl ?_
              refine x_getR (b := 126) 12 2 rfl f_12_8 rfl (congrArg Prod.fst (F.1 125 (12, 92) rfl rfl)) (F.2.1 16002 126 rfl rfl) ?_
              refine x_iload (x := 20) rfl rfl ?_
              refine x_iload (x := 4) rfl rfl ?_
              refine y_iadd (v := 24) rfl (by decide) ?_
              refine x_iconst (v := 0) rfl ki_0 ?_
              refine y_iast (N := 50660) 24 rfl (F.1 126 (100, 50660) rfl rfl) rfl (jinb_of (by decide)) (by decide) ?_
              refine x_iinc (x := 4) (v := 5) (ls' := [(9, .int 5), (8, .int 20), (7, .int 0), (6, .int 1), (0, .ref 125), (1, .int a1), (2, .int a2), (3, .int a3), (4, .int a4), (5, .int a5)]) rfl rfl (by decide) rfl rfl ?_
              refine x_goto (tgt := 117) rfl rfl ?_
              refine x_iload (x := 5) rfl rfl ?_
              refine x_bipush (v := 90) rfl kb_90 ?_
              refine x_icge (tgt := 141) rfl rfl (br_f (by decide) ?_)
              refine x_aloadn (x := 125) rfl rfl ?_
              refine x_getR (b := 126) 12 2 rfl f_12_8 rfl (congrArg Prod.fst (F.1 125 (12, 92) rfl rfl)) (F.2.1 16002 126 rfl rfl) ?_
              refine x_iload (x := 20) rfl rfl ?_
              refine x_iload (x := 5) rfl rfl ?_
              refine y_iadd (v := 25) rfl (by decide) ?_
              refine x_iconst (v := 0) rfl ki_0 ?_
              refine y_iast (N := 50660) 25 rfl (F.1 126 (100, 50660) rfl rfl) rfl (jinb_of (by decide)) (by decide) ?_
              refine x_iinc (x := 5) (v := 6) (ls' := [(9, .int 6), (8, .int 20), (7, .int 0), (6, .int 1), (0, .ref 125), (1, .int a1), (2, .int a2), (3, .int a3), (4, .int a4), (5, .int a5)]) rfl rfl (by decide) rfl rfl ?_
              refine x_goto (tgt := 117) rfl rfl ?_
              refine x_iload (x := 6) rfl rfl ?_
              refine x_bipush (v := 90) rfl kb_90 ?_
              refine x_icge (tgt := 141) rfl rfl (br_f (by decide) ?_)
              refine x_aloadn (x := 125) rfl rfl ?_
              refine x_getR (b := 126) 12 2 rfl f_12_8 rfl (congrArg Prod.fst (F.1 125 (12, 92) rfl rfl)) (F.2.1 16002 126 rfl rfl) ?_
              refine x_iload (x := 20) rfl rfl ?_
              refine x_iload (x := 6) rfl rfl ?_
              refine y_iadd (v := 26) rfl (by decide) ?_
              refine x_iconst (v := 0) rfl ki_0 ?_
              refine y_iast (N := 50660) 26 rfl (F.1 126 (100, 50660) rfl rfl) rfl (jinb_of (by decide)) (by decide) ?_
              refine x_iinc (x := 6) (v := 7) (ls' := [(9, .int 7), (8, .int 20), (7, .int 0), (6, .int 1), (0, .ref 125), (1, .int a1), (2, .int a2), (3, .int a3), (4, .int a4), (5, .int a5)]) rfl rfl (by decide) rfl rfl ?_
              refine x_goto (tgt := 117) rfl rfl ?_
              refine x_iload (x := 7) rfl rfl ?_
              refine x_bipush (v := 90) rfl kb_90 ?_
              refine x_icge (tgt := 141) rfl rfl (br_f (by decide) ?_)
              refine x_aloadn (x := 125) rfl rfl ?_
              refine x_getR (b := 126) 12 2 rfl f_12_8 rfl (congrArg Prod.fst (F.1 125 (12, 92) rfl rfl)) (F.2.1 16002 126 rfl rfl) ?_
              refine x_iload (x := 20) rfl rfl ?_
              refine x_iload (x := 7) rfl rfl ?_
              refine y_iadd (v := 27) rfl (by decide) ?_
              refine x_iconst (v := 0) rfl ki_0 ?_
              refine y_iast (N := 50660) 27 rfl (F.1 126 (100, 50660) rfl rfl) rfl (jinb_of (by decide)) (by decide) ?_
              refine x_iinc (x := 7) (v := 8) (ls' := [(9, .int 8), (8, .int 20), (7, .int 0), (6, .int 1), (0, .ref 125), (1, .int a1), (2, .int a2), (3, .int a3), (4, .int a4), (5, .int a5)]) rfl rfl (by decide) rfl rfl ?_
              refine x_goto (tgt := 117) rfl rfl ?_
              refine x_iload (x := 8) rfl rfl ?_
              refine x_bipush (v := 90) rfl kb_90 ?_
              refine x_icge (tgt := 141) rfl rfl (br_f (by decide) ?_)
              refine x_aloadn (x := 125) rfl rfl ?_
              refine x_getR (b := 126) 12 2 rfl f_12_8 rfl (congrArg Prod.fst (F.1 125 (12, 92) rfl rfl)) (F.2.1 16002 126 rfl rfl) ?_
              refine x_iload (x := 20) rfl rfl ?_
              refine x_iload (x := 8) rfl rfl ?_
              refine y_iadd (v := 28) rfl (by decide) ?_
              refine x_iconst (v := 0) rfl ki_0 ?_
              refine y_iast (N := 50660) 28 rfl (F.1 126 (100, 50660) rfl rfl) rfl (jinb_of (by decide)) (by decide) ?_
              refine x_iinc (x := 8) (v := 9) (ls' := [(9, .int 9), (8, .int 20), (7, .int 0), (6, .int 1), (0, .ref 125), (1, .int a1), (2, .int a2), (3, .int a3), (4, .int a4), (5, .int a5)]) rfl rfl (by decide) rfl rfl ?_
              refine x_goto (tgt := 117) rfl rfl ?_
              refine x_iload (x := 9) rfl rfl ?_
              refine x_bipush (v := 90) rfl kb_90 ?_
              refine x_icge (tgt := 141) rfl rfl (br_f (by decide) ?_)
              refine x_aloadn (x := 125) rfl rfl ?_
              refine x_getR (b := 126) 12 2 rfl f_12_8 rfl (congrArg Prod.fst (F.1 125 (12, 92) rfl rfl)) (F.2.1 16002 126 rfl rfl) ?_
              refine x_iload (x := 20) rfl rfl ?_
              refine x_iload (x := 9) rfl rfl ?_
              refine y_iadd (v := 29) rfl (by decide) ?_
              refine x_iconst (v := 0) rfl ki_0 ?_
              refine y_iast (N := 50660) 29 rfl (F.1 126 (100, 50660) rfl rfl) rfl (jinb_of (by decide)) (by decide) ?_
              refine x_iinc (x := 9) (v := 10) (ls' := [(9, .int 10), (8, .int 20), (7, .int 0), (6, .int 1), (0, .ref 125), (1, .int a1), (2, .int a2), (3, .int a3), (4, .int a4), (5, .int a5)]) rfl rfl (by decide) rfl rfl ?_
              refine x_goto (tgt := 117) rfl rfl ?_
              refine x_iload (x := 10) rfl rfl ?_
              refine x_bipush (v := 90) rfl kb_90 ?_
              refine x_icge (tgt := 141) rfl rfl (br_f (by decide) ?_)
              refine x_aloadn (x := 125) rfl rfl ?_
              refine x_getR (b := 126) 12 2 rfl f_12_8 rfl (congrArg Prod.fst (F.1 125 (12, 92) rfl rfl)) (F.2.1 16002 126 rfl rfl) ?_
              refine x_iload (x := 20) rfl rfl ?_
              refine x_iload (x := 10) rfl rfl ?_
              refine y_iadd (v := 30) rfl (by decide) ?_
              refine x_iconst (v := 0) rfl ki_0 ?_
              refine y_iast (N := 50660) 30 rfl (F.1 126 (100, 50660) rfl rfl) rfl (jinb_of (by decide)) (by decide) ?_
              refine x_iinc (x := 10) (v := 11) (ls' := [(9, .int 11), (8, .int 20), (7, .int 0), (6, .int 1), (0, .ref 125), (1, .int a1), (2, .int a2), (3, .int a3), (4, .int a4), (5, .int a5)]) rfl rfl (by decide) rfl rfl ?_
              refine x_goto (tgt := 117) rfl rfl ?_
              refine x_iload (x := 11) rfl rfl ?_
              refine x_bipush (v := 90) rfl kb_90 ?_
              refine x_icge (tgt := 141) rfl rfl (br_f (by decide) ?_)
              refine x_aloadn (x := 125) rfl rfl ?_
              refine x_getR (b := 126) 12 2 rfl f_12_8 rfl (congrArg Prod.fst (F.1 125 (12, 92) rfl rfl)) (F.2.1 16002 126 rfl rfl) ?_
              refine x_iload (x := 20) rfl rfl ?_
              refine x_iload (x := 11) rfl rfl ?_
              refine y_iadd (v := 31) rfl (by decide) ?_
              refine x_iconst (v := 0) rfl ki_0 ?_
              refine y_iast (N := 50660) 31 rfl (F.1 126 (100, 50660) rfl rfl) rfl (jinb_of (by decide)) (by decide) ?_
              refine x_iinc (x := 11) (v := 12) (ls' := [(9, .int 12), (8, .int 20), (7, .int 0), (6, .int 1), (0, .ref 125), (1, .int a1), (2, .int a2), (3, .int a3), (4, .int a4), (5, .int a5)]) rfl rfl (by decide) rfl rfl ?_
              refine x_goto (tgt := 117) rfl rfl ?_
              refine x_iload (x := 12) rfl rfl ?_
              refine x_bipush (v := 90) rfl kb_90 ?_
              refine x_icge (tgt := 141) rfl rfl (br_f (by decide) ?_)
              refine x_aloadn (x := 125) rfl rfl ?_
              refine x_getR (b := 126) 12 2 rfl f_12_8 rfl (congrArg Prod.fst (F.1 125 (12, 92) rfl rfl)) (F.2.1 16002 126 rfl rfl) ?_
              refine x_iload (x := 20) rfl rfl ?_
              refine x_iload (x := 12) rfl rfl ?_
              refine y_iadd (v := 32) rfl (by decide) ?_
              refine x_iconst (v := 0) rfl ki_0 ?_
              refine y_iast (N := 50660) 32 rfl (F.1 126 (100, 50660) rfl rfl) rfl (jinb_of (by decide)) (by decide) ?_
              refine x_iinc (x := 12) (v := 13) (ls' := [(9, .int 13), (8, .int 20), (7, .int 0), (6, .int 1), (0, .ref 125), (1, .int a1), (2, .int a2), (3, .int a3), (4, .int a4), (5, .int a5)]) rfl rfl (by decide) rfl rfl ?_
              refine x_goto (tgt := 117) rfl rfl ?_
              refine x_iload (x := 13) rfl rfl ?_
              refine x_bipush (v := 90) rfl kb_90 ?_
              refine x_icge (tgt := 141) rfl rfl (br_f (by decide) ?_)
              refine x_aloadn (x := 125) rfl rfl ?_
              refine x_getR (b := 126) 12 2 rfl f_12_8 rfl (congrArg Prod.fst (F.1 125 (12, 92) rfl rfl)) (F.2.1 16002 126 rfl rfl) ?_
              refine x_iload (x := 20) rfl rfl ?_
              refine x_iload (x := 13) rfl rfl ?_
              refine y_iadd (v := 33) rfl (by decide) ?_
              refine x_iconst (v := 0) rfl ki_0 ?_
              refine y_iast (N := 50660) 33 rfl (F.1 126 (100, 50660) rfl rfl) rfl (jinb_of (by decide)) (by decide) ?_
              refine x_iinc (x := 13) (v := 14) (ls' := [(9, .int 14), (8, .int 20), (7, .int 0), (6, .int 1), (0, .ref 125), (1, .int a1), (2, .int a2), (3, .int a3), (4, .int a4), (5, .int a5)]) rfl rfl (by decide) rfl rfl ?_
              refine x_goto (tgt := 117) rfl rfl ?_
              refine x_iload (x := 14) rfl rfl ?_
              refine x_bipush (v := 90) rfl kb_90 ?_
              refine x_icge (tgt := 141) rfl rfl (br_f (by decide) ?_)
              refine x_aloadn (x := 125) rfl rfl ?_
              refine x_getR (b := 126) 12 2 rfl f_12_8 rfl (congrArg Prod.fst (F.1 125 (12, 92) rfl rfl)) (F.2.1 16002 126 rfl rfl) ?_
              refine x_iload (x := 20) rfl rfl ?_
              refine x_iload (x := 14) rfl rfl ?_
              refine y_iadd (v := 34) rfl (by decide) ?_
              refine x_iconst (v := 0) rfl ki_0 ?_
              refine y_iast (N := 50660) 34 rfl (F.1 126 (100, 50660) rfl rfl) rfl (jinb_of (by decide)) (by decide) ?_
              refine x_iinc (x := 14) (v := 15) (ls' := [(9, .int 15), (8, .int 20), (7, .int 0), (6, .int 1), (0, .ref 125), (1, .int a1), (2, .int a2), (3, .int a3), (4, .int a4), (5, .int a5)]) rfl rfl (by decide) rfl rfl ?_
              refine x_goto (tgt := 117) rfl rfl ?_
              refine x_iload (x := 15) rfl rfl ?_
              refine x_bipush (v := 90) rfl kb_90 ?_
              refine x_icge (tgt := 141) rfl rfl (br_f (by decide) ?_)
              refine x_aloadn (x := 125) rfl rfl ?_
              refine x_getR (b := 126) 12 2 rfl f_12_8 rfl (congrArg Prod.fst (F.1 125 (12, 92) rfl rfl)) (F.2.1 16002 126 rfl rfl) ?_
              refine x_iload (x := 20) rfl rfl ?_
              refine x_iload (x := 15) rfl rfl ?_
              refine y_iadd (v := 35) rfl (by decide) ?_
              refine x_iconst (v := 0) rfl ki_0 ?_
              refine y_iast (N := 50660) 35 rfl (F.1 126 (100, 50660) rfl rfl) rfl (jinb_of (by decide)) (by decide) ?_
              refine x_iinc (x := 15) (v := 16) (ls' := [(9, .int 16), (8, .int 20), (7, .int 0), (6, .int 1), (0, .ref 125), (1, .int a1), (2, .int a2), (3, .int a3), (4, .int a4), (5, .int a5)]) rfl rfl (by decide) rfl rfl ?_
              refine x_goto (tgt := 117) rfl rfl ?_
              refine x_iload (x := 16) rfl rfl ?_
              refine x_bipush (v := 90) rfl kb_90 ?_
              refine x_icge (tgt := 141) rfl rfl (br_f (by decide) ?_)
              refine x_aloadn (x := 125) rfl rfl ?_
              refine x_getR (b := 126) 12 2 rfl f_12_8 rfl (congrArg Prod.fst (F.1 125 (12, 92) rfl rfl)) (F.2.1 16002 126 rfl rfl) ?_
              refine x_iload (x := 20) rfl rfl ?_
              refine x_iload (x := 16) rfl rfl ?_
              refine y_iadd (v := 36) rfl (by decide) ?_
              refine x_iconst (v := 0) rfl ki_0 ?_
              refine y_iast (N := 50660) 36 rfl (F.1 126 (100, 50660) rfl rfl) rfl (jinb_of (by decide)) (by decide) ?_
              refine x_iinc (x := 16) (v := 17) (ls' := [(9, .int 17), (8, .int 20), (7, .int 0), (6, .int 1), (0, .ref 125), (1, .int a1), (2, .int a2), (3, .int a3), (4, .int a4), (5, .int a5)]) rfl rfl (by decide) rfl rfl ?_
              refine x_goto (tgt := 117) rfl rfl ?_
              refine x_iload (x := 17) rfl rfl ?_
              refine x_bipush (v := 90) rfl kb_90 ?_
              refine x_icge (tgt := 141) rfl rfl (br_f (by decide) ?_)
              refine x_aloadn (x := 125) rfl rfl ?_
              refine x_getR (b := 126) 12 2 rfl f_12_8 rfl (congrArg Prod.fst (F.1 125 (12, 92) rfl rfl)) (F.2.1 16002 126 rfl rfl) ?_
              refine x_iload (x := 20) rfl rfl ?_
              refine x_iload (x := 17) rfl rfl ?_
              refine y_iadd (v := 37) rfl (by decide) ?_
              refine x_iconst (v := 0) rfl ki_0 ?_
              refine y_iast (N := 50660) 37 rfl (F.1 126 (100, 50660) rfl rfl) rfl (jinb_of (by decide)) (by decide) ?_
              refine x_iinc (x := 17) (v := 18) (ls' := [(9, .int 18), (8, .int 20), (7, .int 0), (6, .int 1), (0, .ref 125), (1, .int a1), (2, .int a2), (3, .int a3), (4, .int a4), (5, .int a5)]) rfl rfl (by decide) rfl rfl ?_
              refine x_goto (tgt := 117) rfl rfl ?_
              refine x_iload (x := 18) rfl rfl ?_
              refine x_bipush (v := 90) rfl kb_90 ?_
              refine x_icge (tgt := 141) rfl rfl (br_f (by decide) ?_)
              refine x_aloadn (x := 125) rfl rfl ?_
              refine x_getR (b := 126) 12 2 rfl f_12_8 rfl (congrArg Prod.fst (F.1 125 (12, 92) rfl rfl)) (F.2.1 16002 126 rfl rfl) ?_
              refine x_iload (x := 20) rfl rfl ?_
              refine x_iload (x := 18) rfl rfl ?_
              refine y_iadd (v := 38) rfl (by decide) ?_
              refine x_iconst (v := 0) rfl ki_0 ?_
              refine y_iast (N := 50660) 38 rfl (F.1 126 (100, 50660) rfl rfl) rfl (jinb_of (by decide)) (by decide) ?_
              refine x_iinc (x := 18) (v := 19) (ls' := [(9, .int 19), (8, .int 20), (7, .int 0), (6, .int 1), (0, .ref 125), (1, .int a1), (2, .int a2), (3, .int a3), (4, .int a4), (5, .int a5)]) rfl rfl (by decide) rfl rfl ?_
              refine x_goto (tgt := 117) rfl rfl ?_
              refine x_iload (x := 19) rfl rfl ?_
              refine x_bipush (v := 90) rfl kb_90 ?_
              refine x_icge (tgt := 141) rfl rfl (br_f (by decide) ?_)
              refine x_aloadn (x := 125) rfl rfl ?_
              refine x_getR (b := 126) 12 2 rfl f_12_8 rfl (congrArg Prod.fst (F.1 125 (12, 92) rfl rfl)) (F.2.1 16002 126 rfl rfl) ?_
              refine x_iload (x := 20) rfl rfl ?_
              refine x_iload (x := 19) rfl rfl ?_
              refine y_iadd (v := 39) rfl (by decide) ?_
              refine x_iconst (v := 0) rfl ki_0 ?_
              refine y_iast (N := 50660) 39 rfl (F.1 126 (100, 50660) rfl rfl) rfl (jinb_of (by decide)) (by decide) ?_
              refine x_iinc (x := 19) (v := 20) (ls' := [(9, .int 20), (8, .int 20), (7, .int 0), (6, .int 1), (0, .ref 125), (1, .int a1), (2, .int a2), (3, .int a3), (4, .int a4), (5, .int a5)]) rfl rfl (by decide) rfl rfl ?_
              refine x_goto (tgt := 117) rfl rfl ?_
              refine x_iload (x := 20) rfl rfl ?_
              refine x_bipush (v := 90) rfl kb_90 ?_
              refine x_icge (tgt := 141) rfl rfl (br_f (by decide) ?_)
              refine x_aloadn (x := 125) rfl rfl ?_
              refine x_getR (b := 126) 12 2 rfl f_12_8 rfl (congrArg Prod.fst (F.1 125 (12, 92) rfl rfl)) (F.2.1 16002 126 rfl rfl) ?_
              refine x_iload (x := 20) rfl rfl ?_
              refine x_iload (x := 20) rfl rfl ?_
              refine y_iadd (v := 40) rfl (by decide) ?_
              refine x_iconst (v := 0) rfl ki_0 ?_
              refine y_iast (N := 50660) 40 rfl (F.1 126 (100, 50660) rfl rfl) rfl (jinb_of (by decide)) (by decide) ?_
              refine x_iinc (x := 20) (v := 21) (ls' := [(9, .int 21), (8, .int 20), (7, .int 0), (6, .int 1), (0, .ref 125), (1, .int a1), (2, .int a2), (3, .int a3), (4, .int a4), (5, .int a5)]) rfl rfl (by decide) rfl rfl ?_
              refine x_goto (tgt := 117) rfl rfl ?_
              refine x_iload (x := 21) rfl rfl ?_
              refine x_bipush (v := 90) rfl kb_90 ?_
              refine x_icge (tgt := 141) rfl rfl (br_f (by decide) ?_)
              refine x_aloadn (x := 125) rfl rfl ?_
              refine x_getR (b := 126) 12 2 rfl f_12_8 rfl (congrArg Prod.fst (F.1 125 (12, 92) rfl rfl)) (F.2.1 16002 126 rfl rfl) ?_
              refine x_iload (x := 20) rfl rfl ?_
              refine x_iload (x := 21) rfl rfl ?_
              refine y_iadd (v := 41) rfl (by decide) ?_
              refine x_iconst (v := 0) rfl ki_0 ?_
              refine y_iast (N := 50660) 41 rfl (F.1 126 (100, 50660) rfl rfl) rfl (jinb_of (by decide)) (by decide) ?_
              refine x_iinc (x := 21) (v := 22) (ls' := [(9, .int 22), (8, .int 20), (7, .int 0), (6, .int 1), (0, .ref 125), (1, .int a1), (2, .int a2), (3, .int a3), (4, .int a4), (5, .int a5)]) rfl rfl (by decide) rfl rfl ?_
              refine x_goto (tgt := 117) rfl rfl ?_
              refine x_iload (x := 22) rfl rfl ?_
              refine x_bipush (v := 90) rfl kb_90 ?_
              refine x_icge (tgt := 141) rfl rfl (br_f (by decide) ?_)
              refine x_aloadn (x := 125) rfl rfl ?_
              refine x_getR (b := 126) 12 2 rfl f_12_8 rfl (congrArg Prod.fst (F.1 125 (12, 92) rfl rfl)) (F.2.1 16002 126 rfl rfl) ?_
              refine x_iload (x := 20) rfl rfl ?_
              refine x_iload (x := 22) rfl rfl ?_
              refine y_iadd (v := 42) rfl (by decide) ?_
              refine x_iconst (v := 0) rfl ki_0 ?_
              refine y_iast (N := 50660) 42 rfl (F.1 126 (100, 50660) rfl rfl) rfl (jinb_of (by decide)) (by decide) ?_
              refine x_iinc (x := 22) (v := 23) (ls' := [(9, .int 23), (8, .int 20), (7, .int 0), (6, .int 1), (0, .ref 125), (1, .int a1), (2, .int a2), (3, .int a3), (4, .int a4), (5, .int a5)]) rfl rfl (by decide) rfl rfl ?_
              refine x_goto (tgt := 117) rfl rfl ?_
              refine x_iload (x := 23) rfl rfl ?_
              refine x_bipush (v := 90) rfl kb_90 ?_
              refine x_icge (tgt := 141) rfl rfl (br_f (by decide) ?_)
              refine x_aloadn (x := 125) rfl rfl ?_
              refine x_getR (b := 126) 12 2 rfl f_12_8 rfl (congrArg Prod.fst (F.1 125 (12, 92) rfl rfl)) (F.2.1 16002 126 rfl rfl) ?_
              refine x_iload (x := 20) rfl rfl ?_
              refine x_iload (x := 23) rfl rfl ?_
              refine y_iadd (v := 43) rfl (by decide) ?_
              refine x_iconst (v := 0) rfl ki_0 ?_
              refine y_iast (N := 50660) 43 rfl (F.1 126 (100, 50660) rfl rfl) rfl (jinb_of (by decide)) (by decide) ?_
              refine x_iinc (x := 23) (v := 24) (ls' := [(9, .int 24), (8, .int 20), (7, .int 0), (6, .int 1), (0, .ref 125), (1, .int a1), (2, .int a2), (3, .int a3), (4, .int a4), (5, .int a5)]) rfl rfl (by decide) rfl rfl ?_
              refine x_goto (tgt := 117) rfl rfl ?_
              refine x_iload (x := 24) rfl rfl ?_
              refine x_bipush (v := 90) rfl kb_90 ?_
              refine x_icge (tgt := 141) rfl rfl (br_f (by decide) ?_)
              refine x_aloadn (x := 125) rfl rfl ?_
              refine x_getR (b := 126) 12 2 rfl f_12_8 rfl (congrArg Prod.fst (F.1 125 (12, 92) rfl rfl)) (F.2.1 16002 126 rfl rfl) ?_
              refine x_iload (x := 20) rfl rfl ?_
              refine x_iload (x := 24) rfl rfl ?_
              refine y_iadd (v := 44) rfl (by decide) ?_
              refine x_iconst (v := 0) rfl ki_0 ?_
              refine y_iast (N := 50660) 44 rfl (F.1 126 (100, 50660) rfl rfl) rfl (jinb_of (by decide)) (by decide) ?_
              refine x_iinc (x := 24) (v := 25) (ls' := [(9, .int 25), (8, .int 20), (7, .int 0), (6, .int 1), (0, .ref 125), (1, .int a1), (2, .int a2), (3, .int a3), (4, .int a4), (5, .int a5)]) rfl rfl (by decide) rfl rfl ?_
              refine x_goto (tgt := 117) rfl rfl ?_
              refine x_iload (x := 25) rfl rfl ?_
              refine x_bipush (v := 90) rfl kb_90 ?_
              refine x_icge (tgt := 141) rfl rfl (br_f (by decide) ?_)
              refine x_aloadn (x := 125) rfl rfl ?_
              refine x_getR (b := 126) 12 2 rfl f_12_8 rfl (congrArg Prod.fst (F.1 125 (12, 92) rfl rfl)) (F.2.1 16002 126 rfl rfl) ?_
              refine x_iload (x := 20) rfl rfl ?_
              refine x_iload (x := 25) rfl rfl ?_
              refine y_iadd (v := 45) rfl (by decide) ?_
              refine x_iconst (v := 0) rfl ki_0 ?_
              refine y_iast (N := 50660) 45 rfl (F.1 126 (100, 50660) rfl rfl) rfl (jinb_of (by decide)) (by decide) ?_
              refine x_iinc (x := 25) (v := 26) (ls' := [(9, .int 26), (8, .int 20), (7, .int 0), (6, .int 1), (0, .ref 125), (1, .int a1), (2, .int a2), (3, .int a3), (4, .int a4), (5, .int a5)]) rfl rfl (by decide) rfl rfl ?_
              refine x_goto (tgt := 117) rfl rfl ?_
              refine x_iload (x := 26) rfl rfl ?_
              refine x_bipush (v := 90) rfl kb_90 ?_
              refine x_icge (tgt := 141) rfl rfl (br_f (by decide) ?_)
              refine x_aloadn (x := 125) rfl rfl ?_
              refine x_getR (b := 126) 12 2 rfl f_12_8 rfl (congrArg Prod.fst (F.1 125 (12, 92) rfl rfl)) (F.2.1 16002 126 rfl rfl) ?_
              refine x_iload (x := 20) rfl rfl ?_
              refine x_iload (x := 26) rfl rfl ?_
              refine y_iadd (v := 46) rfl (by decide) ?_
              refine x_iconst (v := 0) rfl ki_0 ?_
              refine y_iast (N := 50660) 46 rfl (F.1 126 (100, 50660) rfl rfl) rfl (jinb_of (by decide)) (by decide) ?_
              refine x_iinc (x := 26) (v := 27) (ls' := [(9, .int 27), (8, .int 20), (7, .int 0), (6, .int 1), (0, .ref 125), (1, .int a1), (2, .int a2), (3, .int a3), (4, .int a4), (5, .int a5)]) rfl rfl (by decide) rfl rfl ?_
              refine x_goto (tgt := 117) rfl rfl ?_
              refine x_iload (x := 27) rfl rfl ?_
              refine x_bipush (v := 90) rfl kb_90 ?_
              refine x_icge (tgt := 141) rfl rfl (br_f (by decide) ?_)
              refine x_aloadn (x := 125) rfl rfl ?_
              refine x_getR (b := 126) 12 2 rfl f_12_8 rfl (congrArg Prod.fst (F.1 125 (12, 92) rfl rfl)) (F.2.1 16002 126 rfl rfl) ?_
              refine x_iload (x := 20) rfl rfl ?_
              refine x_iload (x := 27) rfl rfl ?_
              refine y_iadd (v := 47) rfl (by decide) ?_
              refine x_iconst (v := 0) rfl ki_0 ?_
              refine y_iast (N := 50660) 47 rfl (F.1 126 (100, 50660) rfl rfl) rfl (jinb_of (by decide)) (by decide) ?_
              refine x_iinc (x := 27) (v := 28) (ls' := [(9, .int 28), (8, .int 20), (7, .int 0), (6, .int 1), (0, .ref 125), (1, .int a1), (2, .int a2), (3, .int a3), (4, .int a4), (5, .int a5)]) rfl rfl (by decide) rfl rfl ?_
              refine x_goto (tgt := 117) rfl rfl ?_
              refine x_iload (x := 28) rfl rfl ?_
              refine x_bipush (v := 90) rfl kb_90 ?_
              refine x_icge (tgt := 141) rfl rfl (br_f (by decide) ?_)
              refine x_aloadn (x := 125) rfl rfl ?_
              refine x_getR (b := 126) 12 2 rfl f_12_8 rfl (congrArg Prod.fst (F.1 125 (12, 92) rfl rfl)) (F.2.1 16002 126 rfl rfl) ?_
              refine x_iload (x := 20) rfl rfl ?_
              refine x_iload (x := 28) rfl rfl ?_
              refine y_iadd (v := 48) rfl (by decide) ?_
              refine x_iconst (v := 0) rfl ki_0 ?_
              refine y_iast (N := 50660) 48 rfl (F.1 126 (100, 50660) rfl rfl) rfl (jinb_of (by decide)) (by decide) ?_
              refine x_iinc (x := 28) (v := 29) (ls' := [(9, .int 29), (8, .int 20), (7, .int 0), (6, .int 1), (0, .ref 125), (1, .int a1), (2, .int a2), (3, .int a3), (4, .int a4), (5, .int a5)]) rfl rfl (by decide) rfl rfl ?_
              refine x_goto (tgt := 117) rfl rfl ?_
              refine x_iload (x := 29) rfl rfl ?_
              refine x_bipush (v := 90) rfl kb_90 ?_
              refine x_icge (tgt := 141) rfl rfl (br_f (by decide) ?_)
              refine x_aloadn (x := 125) rfl rfl ?_
              refine x_getR (b := 126) 12 2 rfl f_12_8 rfl (congrArg Prod.fst (F.1 125 (12, 92) rfl rfl)) (F.2.1 16002 126 rfl rfl) ?_
              refine x_iload (x := 20) rfl rfl ?_
              refine x_iload (x := 29) rfl rfl ?_
              refine y_iadd (v := 49) rfl (by decide) ?_
              refine x_iconst (v := 0) rfl ki_0 ?_
              refine y_iast (N := 50660) 49 rfl (F.1 126 (100, 50660) rfl rfl) rfl (jinb_of (by decide)) (by decide) ?_
              refine x_iinc (x := 29) (v := 30) (ls' := [(9, .int 30), (8, .int 20), (7, .int 0), (6, .int 1), (0, .ref 125), (1, .int a1), (2, .int a2), (3, .int a3), (4, .int a4), (5, .int a5)]) rfl rfl (by decide) rfl rfl ?_
              refine x_goto (tgt := 117) rfl rfl ?_
              refine x_iload (x := 30) rfl rfl ?_
              refine x_bipush (v := 90) rfl kb_90 ?_
              refine x_icge (tgt := 141) rfl rfl (br_f (by decide) ?_)
              refine x_aloadn (x := 125) rfl rfl ?_
              refine x_getR (b := 126) 12 2 rfl f_12_8 rfl (congrArg Prod.fst (F.1 125 (12, 92) rfl rfl)) (F.2.1 16002 126 rfl rfl) ?_
              refine x_iload (x := 20) rfl rfl ?_
              refine x_iload (x := 30) rfl rfl ?_
              refine y_iadd (v := 50) rfl (by decide) ?_
              refine x_iconst (v := 0) rfl ki_0 ?_
              refine y_iast (N := 50660) 50 rfl (F.1 126 (100, 50660) rfl rfl) rfl (jinb_of (by decide)) (by decide) ?_
              refine x_iinc (x := 30) (v := 31) (ls' := [(9, .int 31), (8, .int 20), (7, .int 0), (6, .int 1), (0, .ref 125), (1, .int a1), (2, .int a2), (3, .int a3), (4, .int a4), (5, .int a5)]) rfl rfl (by decide) rfl rfl ?_
              refine x_goto (tgt := 117) rfl rfl ?_
              refine x_iload (x := 31) rfl rfl ?_
              refine x_bipush (v := 90) rfl kb_90 ?_
              refine x_icge (tgt := 141) rfl rfl (br_f (by decide) ?_)
              refine x_aloadn (x := 125) rfl rfl ?_
              refine x_getR (b := 126) 12 2 rfl f_12_8 rfl (congrArg Prod.fst (F.1 125 (12, 92) rfl rfl)) (F.2.1 16002 126 rfl rfl) ?_
              refine x_iload (x := 20) rfl rfl ?_
              refine x_iload (x := 31) rfl rfl ?_
              refine y_iadd (v := 51) rfl (by decide) ?_
              refine x_iconst (v := 0) rfl ki_0 ?_
              refine y_iast (N := 50660) 51 rfl (F.1 126 (100, 50660) rfl rfl) rfl (jinb_of (by decide)) (by decide) ?_
              refine x_iinc (x := 31) (v := 32) (ls' := [(9, .int 32), (8, .int 20), (7, .int 0), (6, .int 1), (0, .ref 125), (1, .int a1), (2, .int a2), (3, .int a3), (4, .int a4), (5, .int a5)]) rfl rfl (by decide) rfl rfl ?_
              refine x_goto (tgt := 117) rfl rfl ?_
              refine x_iload (x := 32) rfl rfl ?_
              refine x_bipush (v := 90) rfl kb_90 ?_
              refine x_icge (tgt := 141) rfl rfl (br_f (by decide) ?_)
              refine x_aloadn (x := 125) rfl rfl ?_
              refine x_getR (b := 126) 12 2 rfl f_12_8 rfl (congrArg Prod.fst (F.1 125 (12, 92) rfl rfl)) (F.2.1 16002 126 rfl rfl) ?_
              refine x_iload (x := 20) rfl rfl ?_
              refine x_iload (x := 32) rfl rfl ?_
              refine y_iadd (v := 52) rfl (by decide) ?_
              refine x_iconst (v := 0) rfl ki_0 ?_
              refine y_iast (N := 50660) 52 rfl (F.1 126 (100, 50660) rfl rfl) rfl (jinb_of (by decide)) (by decide) ?_
              refine x_iinc (x := 32) (v := 33) (ls' := [(9, .int 33), (8, .int 20), (7, .int 0), (6, .int 1), (0, .ref 125), (1, .int a1), (2, .int a2), (3, .int a3), (4, .int a4), (5, .int a5)]) rfl rfl (by decide) rfl rfl ?_
              refine x_goto (tgt := 117) rfl rfl ?_
              refine x_iload (x := 33) rfl rfl ?_
              refine x_bipush (v := 90) rfl kb_90 ?_
              refine x_icge (tgt := 141) rfl rfl (br_f (by decide) ?_)
              refine x_aloadn (x := 125) rfl rfl ?_
              refine x_getR (b := 126) 12 2 rfl f_12_8 rfl (congrArg Prod.fst (F.1 125 (12, 92) rfl rfl)) (F.2.1 16002 126 rfl rfl) ?_
              refine x_iload (x := 20) rfl rfl ?_
              refine x_iload (x := 33) rfl rfl ?_
              refine y_iadd (v := 53) rfl (by decide) ?_
              refine x_iconst (v := 0) rfl ki_0 ?_
              refine y_iast (N := 50660) 53 rfl (F.1 126 (100, 50660) rfl rfl) rfl (jinb_of (by decide)) (by decide) ?_
              refine x_iinc (x := 33) (v := 34) (ls' := [(9, .int 34), (8, .int 20), (7, .int 0), (6, .int 1), (0, .ref 125), (1, .int a1), (2, .int a2), (3, .int a3), (4, .int a4), (5, .int a5)]) rfl rfl (by decide) rfl rfl ?_
              refine x_goto (tgt := 117) rfl rfl ?_
              refine x_iload (x := 34) rfl rfl ?_
              refine x_bipush (v := 90) rfl kb_90 ?_
              refine x_icge (tgt := 141) rfl rfl (br_f (by decide) ?_)
              refine x_aloadn (x := 125) rfl rfl ?_
              refine x_getR (b := 126) 12 2 rfl f_12_8 rfl (congrArg Prod.fst (F.1 125 (12, 92) rfl rfl)) (F.2.1 16002 126 rfl rfl) ?_
              refine x_iload (x := 20) rfl rfl ?_
              refine x_iload (x := 34) rfl rfl ?_
              refine y_iadd (v := 54) rfl (by decide) ?_
              refine x_iconst (v := 0) rfl ki_0 ?_
              refine y_iast (N := 50660) 54 rfl (F.1 126 (100, 50660) rfl rfl) rfl (jinb_of (by decide)) (by decide) ?_
              refine x_iinc (x := 34) (v := 35) (ls' := [(9, .int 35), (8, .int 20), (7, .int 0), (6, .int 1), (0, .ref 125), (1, .int a1), (2, .int a2), (3, .int a3), (4, .int a4), (5, .int a5)]) rfl rfl (by decide) rfl rfl ?_
              refine x_goto (tgt := 117) rfl rfl ?_
              refine x_iload (x := 35) rfl rfl ?_
              refine x_bipush (v := 90) rfl kb_90 ?_
              refine x_icge (tgt := 141) rfl rfl (br_f (by decide) ?_)
              refine x_aloadn (x := 125) rfl rfl ?_
              refine x_getR (b := 126) 12 2 rfl f_12_8 rfl (congrArg Prod.fst (F.1 125 (12, 92) rfl rfl)) (F.2.1 16002 126 rfl rfl) ?_
              refine x_iload (x := 20) rfl rfl ?_
              refine x_iload (x := 35) rfl rfl ?_
              refine y_iadd (v := 55) rfl (by decide) ?_
              refine x_iconst (v := 0) rfl ki_0 ?_
              refine y_iast (N := 50660) 55 rfl (F.1 126 (100, 50660) rfl rfl) rfl (jinb_of (by decide)) (by decide) ?_
              refine x_iinc (x := 35) (v := 36) (ls' := [(9, .int 36), (8, .int 20), (7, .int 0), (6, .int 1), (0, .ref 125), (1, .int a1), (2, .int a2), (3, .int a3), (4, .int a4), (5, .int a5)]) rfl rfl (by decide) rfl rfl ?_
              refine x_goto (tgt := 117) rfl rfl ?_
              refine x_iload (x := 36) rfl rfl ?_
              refine x_bipush (v := 90) rfl kb_90 ?_
              refine x_icge (tgt := 141) rfl rfl (br_f (by decide) ?_)
              refine x_aloadn (x := 125) rfl rfl ?_
              refine x_getR (b := 126) 12 2 rfl f_12_8 rfl (congrArg Prod.fst (F.1 125 (12, 92) rfl rfl)) (F.2.1 16002 126 rfl rfl) ?_
              refine x_iload (x := 20) rfl rfl ?_
              refine x_iload (x := 36) rfl rfl ?_
              refine y_iadd (v := 56) rfl (by decide) ?_
              refine x_iconst (v := 0) rfl ki_0 ?_
              refine y_iast (N := 50660) 56 rfl (F.1 126 (100, 50660) rfl rfl) rfl (jinb_of (by decide)) (by decide) ?_
              refine x_iinc (x := 36) (v := 37) (ls' := [(9, .int 37), (8, .int 20), (7, .int 0), (6, .int 1), (0, .ref 125), (1, .int a1), (2, .int a2), (3, .int a3), (4, .int a4), (5, .int a5)]) rfl rfl (by decide) rfl rfl ?_
              refine x_goto (tgt := 117) rfl rfl ?_
              refine x_iload (x := 37) rfl rfl ?_
              refine x_bipush (v := 90) rfl kb_90 ?_
              refine x_icge (tgt := 141) rfl rfl (br_f (by decide) ?_)
              refine x_aloadn (x := 125) rfl rfl ?_
              refine x_getR (b := 126) 12 2 rfl f_12_8 rfl (congrArg Prod.fst (F.1 125 (12, 92) rfl rfl)) (F.2.1 16002 126 rfl rfl) ?_
              refine x_iload (x := 20) rfl rfl ?_
              refine x_iload (x := 37) rfl rfl ?_
              refine y_iadd (v := 57) rfl (by decide) ?_
              refine x_iconst (v := 0) rfl ki_0 ?_
              refine y_iast (N := 50660) 57 rfl (F.1 126 (100, 50660) rfl rfl) rfl (jinb_of (by decide)) (by decide) ?_
              refine x_iinc (x := 37) (v := 38) (ls' := [(9, .int 38), (8, .int 20), (7, .int 0), (6, .int 1), (0, .ref 125), (1, .int a1), (2, .int a2), (3, .int a3), (4, .int a4), (5, .int a5)]) rfl rfl (by decide) rfl rfl ?_
              refine x_goto (tgt := 117) rfl rfl ?_
              refine x_iload (x := 38) rfl rfl ?_
              refine x_bipush (v := 90) rfl kb_90 ?_
              refine x_icge (tgt := 141) rfl rfl (br_f (by decide) ?_)
              refine x_aloadn (x := 125) rfl rfl ?_
              refine x_getR (b := 126) 12 2 rfl f_12_8 rfl (congrArg Prod.fst (F.1 125 (12, 92) rfl rfl)) (F.2.1 16002 126 rfl rfl) ?_
              refine x_iload (x := 20) rfl rfl ?_
              refine x_iload (x := 38) rfl rfl ?_
              refine y_iadd (v := 58) rfl (by decide) ?_
              refine x_iconst (v := 0) rfl ki_0 ?_
              refine y_iast (N := 50660) 58 rfl (F.1 126 (100, 50660) rfl rfl) rfl (jinb_of (by decide)) (by decide) ?_
              refine x_iinc (x := 38) (v := 39) (ls' := [(9, .int 39), (8, .int 20), (7, .int 0), (6, .int 1), (0, .ref 125), (1, .int a1), (2, .int a2), (3, .int a3), (4, .int a4), (5, .int a5)]) rfl rfl (by decide) rfl rfl ?_
              refine x_goto (tgt := 117) rfl rfl ?_
              refine x_iload (x := 39) rfl rfl ?_
              refine x_bipush (v := 90) rfl kb_90 ?_
              refine x_icge (tgt := 141) rfl rfl (br_f (by decide) ?_)
              refine x_aloadn (x := 125) rfl rfl ?_
              refine x_getR (b := 126) 12 2 rfl f_12_8 rfl (congrArg Prod.fst (F.1 125 (12, 92) rfl rfl)) (F.2.1 16002 126 rfl rfl) ?_
              refine x_iload (x := 20) rfl rfl ?_
              refine x_iload (x := 39) rfl rfl ?_
              refine y_iadd (v := 59) rfl (by decide) ?_
              refine x_iconst (v := 0) rfl ki_0 ?_
              refine y_iast (N := 50660) 59 rfl (F.1 126 (100, 50660) rfl rfl) rfl (jinb_of (by decide)) (by decide) ?_
              refine x_iinc (x := 39) (v := 40) (ls' := [(9, .int 40), (8, .int 20), (7, .int 0), (6, .int 1), (0, .ref 125), (1, .int a1), (2, .int a2), (3, .int a3), (4, .int a4), (5, .int a5)]) rfl rfl (by decide) rfl rfl ?_
              refine x_goto (tgt := 117) rfl rfl ?_
              refine x_iload (x := 40) rfl rfl ?_
              refine x_bipush (v := 90) rfl kb_90 ?_
              refine x_icge (tgt := 141) rfl rfl (br_f (by decide) ?_)
              refine x_aloadn (x := 125) rfl rfl ?_
              refine x_getR (b := 126) 12 2 rfl f_12_8 rfl (congrArg Prod.fst (F.1 125 (12, 92) rfl rfl)) (F.2.1 16002 126 rfl rfl) ?_
              refine x_iload (x := 20) rfl rfl ?_
              refine x_iload (x := 40) rfl rfl ?_
              refine y_iadd (v := 60) rfl (by decide) ?_
              refine x_iconst (v := 0) rfl ki_0 ?_
              refine y_iast (N := 50660) 60 rfl (F.1 126 (100, 50660) rfl rfl) rfl (jinb_of (by decide)) (by decide) ?_
              refine x_iinc (x := 40) (v := 41) (ls' := [(9, .int 41), (8, .int 20), (7, .int 0), (6, .int 1), (0, .ref 125), (1, .int a1), (2, .int a2), (3, .int a3), (4, .int a4), (5, .int a5)]) rfl rfl (by decide) rfl rfl ?_
              refine x_goto (tgt := 117) rfl rfl ?_
              refine x_iload (x := 41) rfl rfl ?_
              refine x_bipush (v := 90) rfl kb_90 ?_
              refine x_icge (tgt := 141) rfl rfl (br_f (by decide) ?_)
              refine x_aloadn (x := 125) rfl rfl ?_
              refine x_getR (b := 126) 12 2 rfl f_12_8 rfl (congrArg Prod.fst (F.1 125 (12, 92) rfl rfl)) (F.2.1 16002 126 rfl rfl) ?_
              refine x_iload (x := 20) rfl rfl ?_
              refine x_iload (x := 41) rfl rfl ?_
              refine y_iadd (v := 61) rfl (by decide) ?_
              refine x_iconst (v := 0) rfl ki_0 ?_
              refine y_iast (N := 50660) 61 rfl (F.1 126 (100, 50660) rfl rfl) rfl (jinb_of (by decide)) (by decide) ?_
              refine x_iinc (x := 41) (v := 42) (ls' := [(9, .int 42), (8, .int 20), (7, .int 0), (6, .int 1), (0, .ref 125), (1, .int a1), (2, .int a2), (3, .int a3), (4, .int a4), (5, .int a5)]) rfl rfl (by decide) rfl rfl ?_
              refine x_goto (tgt := 117) rfl rfl ?_
              refine x_iload (x := 42) rfl rfl ?_
              refine x_bipush (v := 90) rfl kb_90 ?_
              refine x_icge (tgt := 141) rfl rfl (br_f (by decide) ?_)
              refine x_aloadn (x := 125) rfl rfl ?_
              refine x_getR (b := 126) 12 2 rfl f_12_8 rfl (congrArg Prod.fst (F.1 125 (12, 92) rfl rfl)) (F.2.1 16002 126 rfl rfl) ?_
              refine x_iload (x := 20) rfl rfl ?_
              refine x_iload (x := 42) rfl rfl ?_
              refine y_iadd (v := 62) rfl (by decide) ?_
              refine x_iconst (v := 0) rfl ki_0 ?_
              refine y_iast (N := 50660) 62 rfl (F.1 126 (100, 50660) rfl rfl) rfl (jinb_of (by decide)) (by decide) ?_
              refine x_iinc (x := 42) (v := 43) (ls' := [(9, .int 43), (8, .int 20), (7, .int 0), (6, .int 1), (0, .ref 125), (1, .int a1), (2, .int a2), (3, .int a3), (4, .int a4), (5, .int a5)]) rfl rfl (by decide) rfl rfl ?_
              refine x_goto (tgt := 117) rfl rfl ?_
              refine x_iload (x := 43) rfl rfl ?_
              refine x_bipush (v := 90) rfl kb_90 ?_
              refine x_icge (tgt := 141) rfl rfl (br_f (by decide) ?_)
              refine x_aloadn (x := 125) rfl rfl ?_
              refine x_getR (b := 126) 12 2 rfl f_12_8 rfl (congrArg Prod.fst (F.1 125 (12, 92) rfl rfl)) (F.2.1 16002 126 rfl rfl) ?_
              refine x_iload (x := 20) rfl rfl ?_
              refine x_iload (x := 43) rfl rfl ?_
              refine y_iadd (v := 63) rfl (by decide) ?_
              refine x_iconst (v := 0) rfl ki_0 ?_
              refine y_iast (N := 50660) 63 rfl (F.1 126 (100, 50660) rfl rfl) rfl (jinb_of (by decide)) (by decide) ?_
              refine x_iinc (x := 43) (v := 44) (ls' := [(9, .int 44), (8, .int 20), (7, .int 0), (6, .int 1), (0, .ref 125), (1, .int a1), (2, .int a2), (3, .int a3), (4, .int a4), (5, .int a5)]) rfl rfl (by decide) rfl rfl ?_
              refine x_goto (tgt := 117) rfl rfl ?_
              refine x_iload (x := 44) rfl rfl ?_
              refine x_bipush (v := 90) rfl kb_90 ?_
              refine x_icge (tgt := 141) rfl rfl (br_f (by decide) ?_)
              refine x_aloadn (x := 125) rfl rfl ?_
              refine x_getR (b := 126) 12 2 rfl f_12_8 rfl (congrArg Prod.fst (F.1 125 (12, 92) rfl rfl)) (F.2.1 16002 126 rfl rfl) ?_
              refine x_iload (x := 20) rfl rfl ?_
              refine x_iload (x := 44) rfl rfl ?_
              refine y_iadd (v := 64) rfl (by decide) ?_
              refine x_iconst (v := 0) rfl ki_0 ?_
              refine y_iast (N := 50660) 64 rfl (F.1 126 (100, 50660) rfl rfl) rfl (jinb_of (by decide)) (by decide) ?_
              refine x_iinc (x := 44) (v := 45) (ls' := [(9, .int 45), (8, .int 20), (7, .int 0), (6, .int 1), (0, .ref 125), (1, .int a1), (2, .int a2), (3, .int a3), (4, .int a4), (5, .int a5)]) rfl rfl (by decide) rfl rfl ?_
              refine x_goto (tgt := 117) rfl rfl ?_
              refine x_iload (x := 45) rfl rfl ?_
              refine x_bipush (v := 90) rfl kb_90 ?_
              refine x_icge (tgt := 141) rfl rfl (br_f (by decide) ?_)
              refine x_aloadn (x := 125) rfl rfl ?_
              refine x_getR (b := 126) 12 2 rfl f_12_8 rfl (congrArg Prod.fst (F.1 125 (12, 92) rfl rfl)) (F.2.1 16002 126 rfl rfl) ?_
              refine x_iload (x := 20) rfl rfl ?_
              refine x_iload (x := 45) rfl rfl ?_
              refine y_iadd (v := 65) rfl (by decide) ?_
              refine x_iconst (v := 0) rfl ki_0 ?_
              refine y_iast (N := 50660) 65 rfl (F.1 126 (100, 50660) rfl rfl) rfl (jinb_of (by decide)) (by decide) ?_
              refine x_iinc (x := 45) (v := 46) (ls' := [(9, .int 46), (8, .int 20), (7, .int 0), (6, .int 1), (0, .ref 125), (1, .int a1), (2, .int a2), (3, .int a3), (4, .int a4), (5, .int a5)]) rfl rfl (by decide) rfl rfl ?_
              refine x_goto (tgt := 117) rfl rfl ?_
              refine x_iload (x := 46) rfl rfl ?_
              refine x_bipush (v := 90) rfl kb_90 ?_
              refine x_icge (tgt := 141) rfl rfl (br_f (by decide) ?_)
              refine x_aloadn (x := 125) rfl rfl ?_
              refine x_getR (b := 126) 12 2 rfl f_12_8 rfl (congrArg Prod.fst (F.1 125 (12, 92) rfl rfl)) (F.2.1 16002 126 rfl rfl) ?_
              refine x_iload (x := 20) rfl rfl ?_
              refine x_iload (x := 46) rfl rfl ?_
              refine y_iadd (v := 66) rfl (by decide) ?_
              refine x_iconst (v := 0) rfl ki_0 ?_
              refine y_iast (N := 50660) 66 rfl (F.1 126 (100, 50660) rfl rfl) rfl (jinb_of (by decide)) (by decide) ?_
              refine x_iinc (x := 46) (v := 47) (ls' := [(9, .int 47), (8, .int 20), (7, .int 0), (6, .int 1), (0, .ref 125), (1, .int a1), (2, .int a2), (3, .int a3), (4, .int a4), (5, .int a5)]) rfl rfl (by decide) rfl rfl ?_
              refine x_goto (tgt := 117) rfl rfl ?_
              refine x_iload (x := 47) rfl rfl ?_
              refine x_bipush (v := 90) rfl kb_90 ?_
              refine x_icge (tgt := 141) rfl rfl (br_f (by decide) ?_)
              refine x_aloadn (x := 125) rfl rfl ?_
              refine x_getR (b := 126) 12 2 rfl f_12_8 rfl (congrArg Prod.fst (F.1 125 (12, 92) rfl rfl)) (F.2.1 16002 126 rfl rfl) ?_
              refine x_iload (x := 20) rfl rfl ?_
              refine x_iload (x := 47) rfl rfl ?_
              refine y_iadd (v := 67) rfl (by decide) ?_
              refine x_iconst (v := 0) rfl ki_0 ?_
              refine y_iast (N := 50660) 67 rfl (F.1 126 (100, 50660) rfl rfl) rfl (jinb_of (by decide)) (by decide) ?_
              refine x_iinc (x := 47) (v := 48) (ls' := [(9, .int 48), (8, .int 20), (7, .int 0), (6, .int 1), (0, .ref 125), (1, .int a1), (2, .int a2), (3, .int a3), (4, .int a4), (5, .int a5)]) rfl rfl (by decide) rfl rfl ?_
              refine x_goto (tgt := 117) rfl rfl ?_
              refine x_iload (x := 48) rfl rfl ?_
              refine x_bipush (v := 90) rfl kb_90 ?_
              refine x_icge (tgt := 141) rfl rfl (br_f (by decide) ?_)
              refine x_aloadn (x := 125) rfl rfl ?_
              refine x_getR (b := 126) 12 2 rfl f_12_8 rfl (congrArg Prod.fst (F.1 125 (12, 92) rfl rfl)) (F.2.1 16002 126 rfl rfl) ?_
              refine x_iload (x := 20) rfl rfl ?_
              refine x_iload (x := 48) rfl rfl ?_
              refine y_iadd (v := 68) rfl (by decide) ?_
              refine x_iconst (v := 0) rfl ki_0 ?_
              refine y_iast (N := 50660) 68 rfl (F.1 126 (100, 50660) rfl rfl) rfl (jinb_of (by decide)) (by decide) ?_
              refine x_iinc (x := 48) (v := 49) (ls' := [(9, .int 49), (8, .int 20), (7, .int 0), (6, .int 1), (0, .ref 125), (1, .int a1), (2, .int a2), (3, .int a3), (4, .int a4), (5, .int a5)]) rfl rfl (by decide) rfl rfl ?_
              refine x_goto (tgt := 117) rfl rfl ?_
              refine x_iload (x := 49) rfl rfl ?_
              refine x_bipush (v := 90) rfl kb_90 ?_
              refine x_icge (tgt := 141) rfl rfl (br_f (by decide) ?_)
              refine x_aloadn (x := 125) rfl rfl ?_
              refine x_getR (b := 126) 12 2 rfl f_12_8 rfl (congrArg Prod.fst (F.1 125 (12, 92) rfl rfl)) (F.2.1 16002 126 rfl rfl) ?_
              refine x_iload (x := 20) rfl rfl ?_
              refine x_iload (x := 49) rfl rfl ?_
              refine y_iadd (v := 69) rfl (by decide) ?_
              refine x_iconst (v := 0) rfl ki_0 ?_
              refine y_iast (N := 50660) 69 rfl (F.1 126 (100, 50660) rfl rfl) rfl (jinb_of (by decide)) (by decide) ?_
              refine x_iinc (x := 49) (v := 50) (ls' := [(9, .int 50), (8, .int 20), (7, .int 0), (6, .int 1), (0, .ref 125), (1, .int a1), (2, .int a2), (3, .int a3), (4, .int a4), (5, .int a5)]) rfl rfl (by decide) rfl rfl ?_
              refine x_goto (tgt := 117) rfl rfl ?_
              refine x_iload (x := 50) rfl rfl ?_
              refine x_bipush (v := 90) rfl kb_90 ?_
              refine x_icge (tgt := 141) rfl rfl (br_f (by decide) ?_)
              refine x_aloadn (x := 125) rfl rfl ?_
              refine x_getR (b := 126) 12 2 rfl f_12_8 rfl (congrArg Prod.fst (F.1 125 (12, 92) rfl rfl)) (F.2.1 16002 126 rfl rfl) ?_
              refine x_iload (x := 20) rfl rfl ?_
              refine x_iload (x := 50) rfl rfl ?_
              refine y_iadd (v := 70) rfl (by decide) ?_
              refine x_iconst (v := 0) rfl ki_0 ?_
              refine y_iast (N := 50660) 70 rfl (F.1 126 (100, 50660) rfl rfl) rfl (jinb_of (by decide)) (by decide) ?_
              refine x_iinc (x := 50) (v := 51) (ls' := [(9, .int 51), (8, .int 20), (7, .int 0), (6, .int 1), (0, .ref 125), (1, .int a1), (2, .int a2), (3, .int a3), (4, .int a4), (5, .int a5)]) rfl rfl (by decide) rfl rfl ?_
              refine x_goto (tgt := 117) rfl rfl ?_
              refine x_iload (x := 51) rfl rfl ?_
              refine x_bipush (v := 90) rfl kb_90 ?_
              refine x_icge (tgt := 141) rfl rfl (br_f (by decide) ?_)
              refine x_aloadn (x := 125) rfl rfl ?_
              refine x_getR (b := 126) 12 2 rfl f_12_8 rfl (congrArg Prod.fst (F.1 125 (12, 92) rfl rfl)) (F.2.1 16002 126 rfl rfl) ?_
              refine x_iload (x := 20) rfl rfl ?_
              refine x_iload (x := 51) rfl rfl ?_
              refine y_iadd (v := 71) rfl (by decide) ?_
              refine x_iconst (v := 0) rfl ki_0 ?_
              refine y_iast (N := 50660) 71 rfl (F.1 126 (100, 50660) rfl rfl) rfl (jinb_of (by decide)) (by decide) ?_
              refine x_iinc (x := 51) (v := 52) (ls' := [(9, .int 52), (8, .int 20), (7, .int 0), (6, .int 1), (0, .ref 125), (1, .int a1), (2, .int a2), (3, .int a3), (4, .int a4), (5, .int a5)]) rfl rfl (by decide) rfl rfl ?_
              refine x_goto (tgt := 117) rfl rfl ?_
              refine x_iload (x := 52) rfl rfl ?_
              refine x_bipush (v := 90) rfl kb_90 ?_
              refine x_icge (tgt := 141) rfl rfl (br_f (by decide) ?_)
              refine x_aloadn (x := 125) rfl rfl ?_
              refine x_getR (b := 126) 12 2 rfl f_12_8 rfl (congrArg Prod.fst (F.1 125 (12, 92) rfl rfl)) (F.2.1 16002 126 rfl rfl) ?_
              refine x_iload (x := 20) rfl rfl ?_
              refine x_iload (x := 52) rfl rfl ?_
              refine y_iadd (v := 72) rfl (by decide) ?_
              refine x_iconst (v := 0) rfl ki_0 ?_
              refine y_iast (N := 50660) 72 rfl (F.1 126 (100, 50660) rfl rfl) rfl (jinb_of (by decide)) (by decide) ?_
              refine x_iinc (x := 52) (v := 53) (ls' := [(9, .int 53), (8, .int 20), (7, .int 0), (6, .int 1), (0, .ref 125), (1, .int a1), (2, .int a2), (3, .int a3), (4, .int a4), (5, .int a5)]) rfl rfl (by decide) rfl rfl ?_
              refine x_goto (tgt := 117) rfl rfl ?_
              refine x_iload (x := 53) rfl rfl ?_
              refine x_bipush (v := 90) rfl kb_90 ?_
              refine x_icge (tgt := 141) rfl rfl (br_f (by decide) ?_)
              refine x_aloadn (x := 125) rfl rfl ?_
              refine x_getR (b := 126) 12 2 rfl f_12_8 rfl (congrArg Prod.fst (F.1 125 (12, 92) rfl rfl)) (F.2.1 16002 126 rfl rfl) ?_
              refine x_iload (x := 20) rfl rfl ?_
              refine x_iload (x := 53) rfl rfl ?_
              refine y_iadd (v := 73) rfl (by decide) ?_
              refine x_iconst (v := 0) rfl ki_0 ?_
              refine y_iast (N := 50660) 73 rfl (F.1 126 (100, 50660) rfl rfl) rfl (jinb_of (by decide)) (by decide) ?_
              refine x_iinc (x := 53) (v := 54) (ls' := [(9, .int 54), (8, .int 20), (7, .int 0), (6, .int 1), (0, .ref 125), (1, .int a1), (2, .int a2), (3, .int a3), (4, .int a4), (5, .int a5)]) rfl rfl (by decide) rfl rfl ?_
              refine x_goto (tgt := 117) rfl rfl ?_
              refine x_iload (x := 54) rfl rfl ?_
              refine x_bipush (v := 90) rfl kb_90 ?_
              refine x_icge (tgt := 141) rfl rfl (br_f (by decide) ?_)
              refine x_aloadn (x := 125) rfl rfl ?_
              refine x_getR (b := 126) 12 2 rfl f_12_8 rfl (congrArg Prod.fst (F.1 125 (12, 92) rfl rfl)) (F.2.1 16002 126 rfl rfl) ?_
              refine x_iload (x := 20) rfl rfl ?_
              refine x_iload (x := 54) rfl rfl ?_
              refine y_iadd (v := 74) rfl (by decide) ?_
              refine x_iconst (v := 0) rfl ki_0 ?_
              refine y_iast (N := 50660) 74 rfl (F.1 126 (100, 50660) rfl rfl) rfl (jinb_of (by decide)) (by decide) ?_
              refine x_iinc (x := 54) (v := 55) (ls' := [(9, .int 55), (8, .int 20), (7, .int 0), (6, .int 1), (0, .ref 125), (1, .int a1), (2, .int a2), (3, .int a3), (4, .int a4), (5, .int a5)]) rfl rfl (by decide) rfl rfl ?_
              refine x_goto (tgt := 117) rfl rfl ?_
              refine x_iload (x := 55) rfl rfl ?_
              refine x_bipush (v := 90) rfl kb_90 ?_
              refine x_icge (tgt := 141) rfl rfl (br_f (by decide) ?_)
              refine x_aloadn (x := 125) rfl rfl ?_
              refine x_getR (b := 126) 12 2 rfl f_12_8 rfl (congrArg Prod.fst (F.1 125 (12, 92) rfl rfl)) (F.2.1 16002 126 rfl rfl) ?_
              refine x_iload (x := 20) rfl rfl ?_
              refine x_iload (x := 55) rfl rfl ?_
              refine y_iadd (v := 75) rfl (by decide) ?_
              refine x_iconst (v := 0) rfl ki_0 ?_
              refine y_iast (N := 50660) 75 rfl (F.1 126 (100, 50660) rfl rfl) rfl (jinb_of (by decide)) (by decide) ?_
              refine x_iinc (x := 55) (v := 56) (ls' := [(9, .int 56), (8, .int 20), (7, .int 0), (6, .int 1), (0, .ref 125), (1, .int a1), (2, .int a2), (3, .int a3), (4, .int a4), (5, .int a5)]) rfl rfl (by decide) rfl rfl ?_
              refine x_goto (tgt := 117) rfl rfl ?_
              refine x_iload (x := 56) rfl rfl ?_
              refine x_bipush (v := 90) rfl kb_90 ?_
              refine x_icge (tgt := 141) rfl rfl (br_f (by decide) ?_)
              refine x_aloadn (x := 125) rfl rfl ?_
              refine x_getR (b := 126) 12 2 rfl f_12_8 rfl (congrArg Prod.fst (F.1 125 (12, 92) rfl rfl)) (F.2.1 16002 126 rfl rfl) ?_
              refine x_iload (x := 20) rfl rfl ?_
              refine x_iload (x := 56) rfl rfl ?_
              refine y_iadd (v := 76) rfl (by decide) ?_
              refine x_iconst (v := 0) rfl ki_0 ?_
              refine y_iast (N := 50660) 76 rfl (F.1 126 (100, 50660) rfl rfl) rfl (jinb_of (by decide)) (by decide) ?_
              refine x_iinc (x := 56) (v := 57) (ls' := [(9, .int 57), (8, .int 20), (7, .int 0), (6, .int 1), (0, .ref 125), (1, .int a1), (2, .int a2), (3, .int a3), (4, .int a4), (5, .int a5)]) rfl rfl (by decide) rfl rfl ?_
              refine x_goto (tgt := 117) rfl rfl ?_
              refine x_iload (x := 57) rfl rfl ?_
              refine x_bipush (v := 90) rfl kb_90 ?_
              refine x_icge (tgt := 141) rfl rfl (br_f (by decide) ?_)
              refine x_aloadn (x := 125) rfl rfl ?_
              refine x_getR (b := 126) 12 2 rfl f_12_8 rfl (congrArg Prod.fst (F.1 125 (12, 92) rfl rfl)) (F.2.1 16002 126 rfl rfl) ?_
              refine x_iload (x := 20) rfl rfl ?_
              refine x_iload (x := 57) rfl rfl ?_
              refine y_iadd (v := 77) rfl (by decide) ?_
              refine x_iconst (v := 0) rfl ki_0 ?_
              refine y_iast (N := 50660) 77 rfl (F.1 126 (100, 50660) rfl rfl) rfl (jinb_of (by decide)) (by decide) ?_
              refine x_iinc (x := 57) (v := 58) (ls' := [(9, .int 58), (8, .int 20), (7, .int 0), (6, .int 1), (0, .ref 125), (1, .int a1), (2, .int a2), (3, .int a3), (4, .int a4), (5, .int a5)]) rfl rfl (by decide) rfl rfl ?_
              refine x_goto (tgt := 117) rfl rfl ?_
              refine x_iload (x := 58) rfl rfl ?_
              refine x_bipush (v := 90) rfl kb_90 ?_
              refine x_icge (tgt := 141) rfl rfl (br_f (by decide) ?_)
              refine x_aloadn (x := 125) rfl rfl ?_
              refine x_getR (b := 126) 12 2 rfl f_12_8 rfl (congrArg Prod.fst (F.1 125 (12, 92) rfl rfl)) (F.2.1 16002 126 rfl rfl) ?_
              refine x_iload (x := 20) rfl rfl ?_
              refine x_iload (x := 58) rfl rfl ?_
              refine y_iadd (v := 78) rfl (by decide) ?_
              refine x_iconst (v := 0) rfl ki_0 ?_
              refine y_iast (N := 50660) 78 rfl (F.1 126 (100, 50660) rfl rfl) rfl (jinb_of (by decide)) (by decide) ?_
              refine x_iinc (x := 58) (v := 59) (ls' := [(9, .int 59), (8, .int 20), (7, .int 0), (6, .int 1), (0, .ref 125), (1, .int a1), (2, .int a2), (3, .int a3), (4, .int a4), (5, .int a5)]) rfl rfl (by decide) rfl rfl ?_
              refine x_goto (tgt := 117) rfl rfl ?_
              refine x_iload (x := 59) rfl rfl ?_
              refine x_bipush (v := 90) rfl kb_90 ?_
              refine x_icge (tgt := 141) rfl rfl (br_f (by decide) ?_)
              refine x_aloadn (x := 125) rfl rfl ?_
              refine x_getR (b := 126) 12 2 rfl f_12_8 rfl (congrArg Prod.fst (F.1 125 (12, 92) rfl rfl)) (F.2.1 16002 126 rfl rfl) ?_
              refine x_iload (x := 20) rfl rfl ?_
              refine x_iload (x := 59) rfl rfl ?_
              refine y_iadd (v := 79) rfl (by decide) ?_
              refine x_iconst (v := 0) rfl ki_0 ?_
              refine y_iast (N := 50660) 79 rfl (F.1 126 (100, 50660) rfl rfl) rfl (jinb_of (by decide)) (by decide) ?_
              refine x_iinc (x := 59) (v := 60) (ls' := [(9, .int 60), (8, .int 20), (7, .int 0), (6, .int 1), (0, .ref 125), (1, .int a1), (2, .int a2), (3, .int a3), (4, .int a4), (5, .int a5)]) rfl rfl (by decide) rfl rfl ?_
              refine x_goto (tgt := 117) rfl rfl ?_
              refine x_iload (x := 60) rfl rfl ?_
              refine x_bipush (v := 90) rfl kb_90 ?_
              refine x_icge (tgt := 141) rfl rfl (br_f (by decide) ?_)
              refine x_aloadn (x := 125) rfl rfl ?_
              refine x_getR (b := 126) 12 2 rfl f_12_8 rfl (congrArg Prod.fst (F.1 125 (12, 92) rfl rfl)) (F.2.1 16002 126 rfl rfl) ?_
              refine x_iload (x := 20) rfl rfl ?_
              refine x_iload (x := 60) rfl rfl ?_
              refine y_iadd (v := 80) rfl (by decide) ?_
              refine x_iconst (v := 0) rfl ki_0 ?_
              refine y_iast (N := 50660) 80 rfl (F.1 126 (100, 50660) rfl rfl) rfl (jinb_of (by decide)) (by decide) ?_
              refine x_iinc (x := 60) (v := 61) (ls' := [(9, .int 61), (8, .int 20), (7, .int 0), (6, .int 1), (0, .ref 125), (1, .int a1), (2, .int a2), (3, .int a3), (4, .int a4), (5, .int a5)]) rfl rfl (by decide) rfl rfl ?_
              refine x_goto (tgt := 117) rfl rfl ?_
              refine x_iload (x := 61) rfl rfl ?_
              refine x_bipush (v := 90) rfl kb_90 ?_
              refine x_icge (tgt := 141) rfl rfl (br_f (by decide) ?_)
              refine x_aloadn (x := 125) rfl rfl ?_
              refine x_getR (b := 126) 12 2 rfl f_12_8 rfl (congrArg Prod.fst (F.1 125 (12, 92) rfl rfl)) (F.2.1 16002 126 rfl rfl) ?_
              refine x_iload (x := 20) rfl rfl ?_
              refine x_iload (x := 61) rfl rfl ?_
              refine y_iadd (v := 81) rfl (by decide) ?_
              refine x_iconst (v := 0) rfl ki_0 ?_
              refine y_iast (N := 50660) 81 rfl (F.1 126 (100, 50660) rfl rfl) rfl (jinb_of (by decide)) (by decide) ?_
              refine x_iinc (x := 61) (v := 62) (ls' := [(9, .int 62), (8, .int 20), (7, .int 0), (6, .int 1), (0, .ref 125), (1, .int a1), (2, .int a2), (3, .int a3), (4, .int a4), (5, .int a5)]) rfl rfl (by decide) rfl rfl ?_
              refine x_goto (tgt := 117) rfl rfl ?_
              refine x_iload (x := 62) rfl rfl ?_
              refine x_bipush (v := 90) rfl kb_90 ?_
              refine x_icge (tgt := 141) rfl rfl (br_f (by decide) ?_)
              refine x_aloadn (x := 125) rfl rfl ?_
              refine x_getR (b := 126) 12 2 rfl f_12_8 rfl (congrArg Prod.fst (F.1 125 (12, 92) rfl rfl)) (F.2.1 16002 126 rfl rfl) ?_
              refine x_iload (x := 20) rfl rfl ?_
              refine x_iload (x := 62) rfl rfl ?_
              refine y_iadd (v := 82) rfl (by decide) ?_
              refine x_iconst (v := 0) rfl ki_0 ?_
              refine y_iast (N := 50660) 82 rfl (F.1 126 (100, 50660) rfl rfl) rfl (jinb_of (by decide)) (by decide) ?_
              refine x_iinc (x := 62) (v := 63) (ls' := [(9, .int 63), (8, .int 20), (7, .int 0), (6, .int 1), (0, .ref 125), (1, .int a1), (2, .int a2), (3, .int a3), (4, .int a4), (5, .int a5)]) rfl rfl (by decide) rfl rfl ?_
              refine x_goto (tgt := 117) rfl rfl ?_
              refine x_iload (x := 63) rfl rfl ?_
              refine x_bipush (v := 90) rfl kb_90 ?_
              refine x_icge (tgt := 141) rfl rfl (br_f (by decide) ?_)
              refine x_aloadn (x := 125) rfl rfl ?_
              refine x_getR (b := 126) 12 2 rfl f_12_8 rfl (congrArg Prod.fst (F.1 125 (12, 92) rfl rfl)) (F.2.1 16002 126 rfl rfl) ?_
              refine x_iload (x := 20) rfl rfl ?_
              refine x_iload (x := 63) rfl rfl ?_
              refine y_iadd (v := 83) rfl (by decide) ?_
              refine x_iconst (v := 0) rfl ki_0 ?_
              refine y_iast (N := 50660) 83 rfl (F.1 126 (100, 50660) rfl rfl) rfl (jinb_of (by decide)) (by decide) ?_
              refine x_iinc (x := 63) (v := 64) (ls' := [(9, .int 64), (8, .int 20), (7, .int 0), (6, .int 1), (0, .ref 125), (1, .int a1), (2, .int a2), (3, .int a3), (4, .int a4), (5, .int a5)]) rfl rfl (by decide) rfl rfl ?_
              refine x_goto (tgt := 117) rfl rfl ?_
              refine x_iload (x := 64) rfl rfl ?_
              refine x_bipush (v := 90) rfl kb_90 ?_
              refine x_icge (tgt := 141) rfl rfl (br_f (by decide) ?_)
              refine x_aloadn (x := 125) rfl rfl ?_
              refine x_getR (b := 126) 12 2 rfl f_12_8 rfl (congrArg Prod.fst (F.1 125 (12, 92) rfl rfl)) (F.2.1 16002 126 rfl rfl) ?_
              refine x_iload (x := 20) rfl rfl ?_
              refine x_iload (x := 64) rfl rfl ?_
              refine y_iadd (v := 84) rfl (by decide) ?_
              refine x_iconst (v := 0) rfl ki_0 ?_
              refine y_iast (N := 50660) 84 rfl (F.1 126 (100, 50660) rfl rfl) rfl (jinb_of (by decide)) (by decide) ?_
              refine x_iinc (x := 64) (v := 65) (ls' := [(9, .int 65), (8, .int 20), (7, .int 0), (6, .int 1), (0, .ref 125), (1, .int a1), (2, .int a2), (3, .int a3), (4, .int a4), (5, .int a5)]) rfl rfl (by decide) rfl rfl ?_
              refine x_goto (tgt := 117) rfl rfl ?_
              refine x_iload (x := 65) rfl rfl ?_
              refine x_bipush (v := 90) rfl kb_90 ?_
              refine x_icge (tgt := 141) rfl rfl (br_f (by decide) ?_)
              refine x_aloadn (x := 125) rfl rfl ?_
              refine x_getR (b := 126) 12 2 rfl f_12_8 rfl (congrArg Prod.fst (F.1 125 (12, 92) rfl rfl)) (F.2.1 16002 126 rfl rfl) ?_
              refine x_iload (x := 20) rfl rfl ?_
              refine x_iload (x := 65) rfl rfl ?_
              refine y_iadd (v := 85) rfl (by decide) ?_
              refine x_iconst (v := 0) rfl ki_0 ?_
              refine y_iast (N := 50660) 85 rfl (F.1 126 (100, 50660) rfl rfl) rfl (jinb_of (by decide)) (by decide) ?_
              refine x_iinc (x := 65) (v := 66) (ls' := [(9, .int 66), (8, .int 20), (7, .int 0), (6, .int 1), (0, .ref 125), (1, .int a1), (2, .int a2), (3, .int a3), (4, .int a4), (5, .int a5)]) rfl rfl (by decide) rfl rfl ?_
              refine x_goto (tgt := 117) rfl rfl ?_
              refine x_iload (x := 66) rfl rfl ?_
              refine x_bipush (v := 90) rfl kb_90 ?_
              refine x_icge (tgt := 141) rfl rfl (br_f (by decide) ?_)
              refine x_aloadn (x := 125) rfl rfl ?_
              refine x_getR (b := 126) 12 2 rfl f_12_8 rfl (congrArg Prod.fst (F.1 125 (12, 92) rfl rfl)) (F.2.1 16002 126 rfl rfl) ?_
              refine x_iload (x := 20) rfl rfl ?_
              refine x_iload (x := 66) rfl rfl ?_
              refine y_iadd (v := 86) rfl (by decide) ?_
              refine x_iconst (v := 0) rfl ki_0 ?_
              refine y_iast (N := 50660) 86 rfl (F.1 126 (100, 50660) rfl rfl) rfl (jinb_of (by decide)) (by decide) ?_
              refine x_iinc (x := 66) (v := 67) (ls' := [(9, .int 67), (8, .int 20), (7, .int 0), (6, .int 1), (0, .ref 125), (1, .int a1), (2, .int a2), (3, .int a3), (4, .int a4), (5, .int a5)]) rfl rfl (by decide) rfl rfl ?_
              refine x_goto (tgt := 117) rfl rfl ?_
              refine x_iload (x := 67) rfl rfl ?_
              refine x_bipush (v := 90) rfl kb_90 ?_
              refine x_icge (tgt := 141) rfl rfl (br_f (by decide) ?_)
              refine x_aloadn (x := 125) rfl rfl ?_
              refine x_getR (b := 126) 12 2 rfl f_12_8 rfl (congrArg Prod.fst (F.1 125 (12, 92) rfl rfl)) (F.2.1 16002 126 rfl rfl) ?_
              refine x_iload (x := 20) rfl rfl ?_
              refine x_iload (x := 67) rfl rfl ?_
              refine y_iadd (v := 87) rfl (by decide) ?_
              refine x_iconst (v := 0) rfl ki_0 ?_
              refine y_iast (N := 50660) 87 rfl (F.1 126 (100, 50660) rfl rfl) rfl (jinb_of (by decide)) (by decide) ?_
              refine x_iinc (x := 67) (v := 68) (ls' := [(9, .int 68), (8, .int 20), (7, .int 0), (6, .int 1), (0, .ref 125), (1, .int a1), (2, .int a2), (3, .int a3), (4, .int a4), (5, .int a5)]) rfl rfl (by decide) rfl rfl ?_
              refine x_goto (tgt := 117) rfl rfl ?_
              refine x_iload (x := 68) rfl rfl ?_
              refine x_bipush (v := 90) rfl kb_90 ?_
              refine x_icge (tgt := 141) rfl rfl (br_f (by decide) ?_)
              refine x_aloadn (x := 125) rfl rfl ?_
              refine x_getR (b := 126) 12 2 rfl f_12_8 rfl (congrArg Prod.fst (F.1 125 (12, 92) rfl rfl)) (F.2.1 16002 126 rfl rfl) ?_
              refine x_iload (x := 20) rfl rfl ?_
              refine x_iload (x := 68) rfl rfl ?_
              refine y_iadd (v := 88) rfl (by decide) ?_
              refine x_iconst (v := 0) rfl ki_0 ?_
              refine y_iast (N := 50660) 88 rfl (F.1 126 (100, 50660) rfl rfl) rfl (jinb_of (by decide)) (by decide) ?_
              refine x_iinc (x := 68) (v := 69) (ls' := [(9, .int 69), (8, .int 20), (7, .int 0), (6, .int 1), (0, .ref 125), (1, .int a1), (2, .int a2), (3, .int a3), (4, .int a4), (5, .int a5)]) rfl rfl (by decide) rfl rfl ?_
              refine x_goto (tgt := 117) rfl rfl ?_
              refine x_iload (x := 69) rfl rfl ?_
              refine x_bipush (v := 90) rfl kb_90 ?_
              refine x_icge (tgt := 141) rfl rfl (br_f (by decide) ?_)
              refine x_aloadn (x := 125) rfl rfl ?_
              refine x_getR (b := 126) 12 2 rfl f_12_8 rfl (congrArg Prod.fst (F.1 125 (12, 92) rfl rfl)) (F.2.1 16002 126 rfl rfl) ?_
              refine x_iload (x := 20) rfl rfl ?_
              refine x_iload (x := 69) rfl rfl ?_
              refine y_iadd (v := 89) rfl (by decide) ?_
              refine x_iconst (v := 0) rfl ki_0 ?_
              refine y_iast (N := 50660) 89 rfl (F.1 126 (100, 50660) rfl rfl) rfl (jinb_of (by decide)) (by decide) ?_
              refine x_iinc (x := 69) (v := 70) (ls' := [(9, .int 70), (8, .int 20), (7, .int 0), (6, .int 1), (0, .ref 125), (1, .int a1), (2, .int a2), (3, .int a3), (4, .int a4), (5, .int a5)]) rfl rfl (by decide) rfl rfl ?_
              refine x_goto (tgt := 117) rfl rfl ?_
              refine x_iload (x := 70) rfl rfl ?_
              refine x_bipush (v := 90) rfl kb_90 ?_
              refine x_icge (tgt := 141) rfl rfl (br_f (by decide) ?_)
              refine x_aloadn (x := 125) rfl rfl ?_
              refine x_getR (b := 126) 12 2 rfl f_12_8 rfl (congrArg Prod.fst (F.1 125 (12, 92) rfl rfl)) (F.2.1 16002 126 rfl rfl) ?_
              refine x_iload (x := 20) rfl rfl ?_
              refine x_iload (x := 70) rfl rfl ?_
              refine y_iadd (v := 90) rfl (by decide) ?_
              refine x_iconst (v := 0) rfl ki_0 ?_
              refine y_iast (N := 50660) 90 rfl (F.1 126 (100, 50660) rfl rfl) rfl (jinb_of (by decide)) (by decide) ?_
              refine x_iinc (x := 70) (v := 71) (ls' := [(9, .int 71), (8, .int 20), (7, .int 0), (6, .int 1), (0, .ref 125), (1, .int a1), (2, .int a2), (3, .int a3), (4, .int a4), (5, .int a5)]) rfl rfl (by decide) rfl rfl ?_
              refine x_goto (tgt := 117) rfl rfl ?_
              refine x_iload (x := 71) rfl rfl ?_
              refine x_bipush (v := 90) rfl kb_90 ?_
              refine x_icge (tgt := 141) rfl rfl (br_f (by decide) ?_)
              refine x_aloadn (x := 125) rfl rfl ?_
              refine x_getR (b := 126) 12 2 rfl f_12_8 rfl (congrArg Prod.fst (F.1 125 (12, 92) rfl rfl)) (F.2.1 16002 126 rfl rfl) ?_
              refine x_iload (x := 20) rfl rfl ?_
              refine x_iload (x := 71) rfl rfl ?_
              refine y_iadd (v := 91) rfl (by decide) ?_
              refine x_iconst (v := 0) rfl ki_0 ?_
              refine y_iast (N := 50660) 91 rfl (F.1 126 (100, 50660) rfl rfl) rfl (jinb_of (by decide)) (by decide) ?_
              refine x_iinc (x := 71) (v := 72) (ls' := [(9, .int 72), (8, .int 20), (7, .int 0), (6, .int 1), (0, .ref 125), (1, .int a1), (2, .int a2), (3, .int a3), (4, .int a4), (5, .int a5)]) rfl rfl (by decide) rfl rfl ?_
              refine x_goto (tgt := 117) rfl rfl ?_
              refine x_iload (x := 72) rfl rfl ?_
              refine x_bipush (v := 90) rfl kb_90 ?_
              refine x_icge (tgt := 141) rfl rfl (br_f (by decide) ?_)
              refine x_aloadn (x := 125) rfl rfl ?_
              refine x_getR (b := 126) 12 2 rfl f_12_8 rfl (congrArg Prod.fst (F.1 125 (12, 92) rfl rfl)) (F.2.1 16002 126 rfl rfl) ?_
              refine x_iload (x := 20) rfl rfl ?_
              refine x_iload (x := 72) rfl rfl ?_
              refine y_iadd (v := 92) rfl (by decide) ?_
              refine x_iconst (v := 0) rfl ki_0 ?_
              refine y_iast (N := 50660) 92 rfl (F.1 126 (100, 50660) rfl rfl) rfl (jinb_of (by decide)) (by decide) ?_
              refine x_iinc (x := 72) (v := 73) (ls' := [(9, .int 73), (8, .int 20), (7, .int 0), (6, .int 1), (0, .ref 125), (1, .int a1), (2, .int a2), (3, .int a3), (4, .int a4), (5, .int a5)]) rfl rfl (by decide) rfl rfl ?_
              refine x_goto (tgt := 117) rfl rfl ?_
              refine x_iload (x := 73) rfl rfl ?_
              refine x_bipush (v := 90) rfl kb_90 ?_
              refine x_icge (tgt := 141) rfl rfl (br_f (by decide) ?_)
              refine x_aloadn (x := 125) rfl rfl ?_
              refine x_getR (b := 126) 12 2 rfl f_12_8 rfl (congrArg Prod.fst (F.1 125 (12, 92) rfl rfl)) (F.2.1 16002 126 rfl rfl) ?_
              refine x_iload (x := 20) rfl rfl ?_
              refine x_iload (x := 73) rfl rfl ?_
              refine y_iadd (v := 93) rfl (by decide) ?_
              refine x_iconst (v := 0) rfl ki_0 ?_
              refine y_iast (N := 50660) 93 rfl (F.1 126 (100, 50660) rfl rfl) rfl (jinb_of (by decide)) (by decide) ?_
              refine x_iinc (x := 73) (v := 74) (ls' := [(9, .int 74), (8, .int 20), (7, .int 0), (6, .int 1), (0, .ref 125), (1, .int a1), (2, .int a2), (3, .int a3), (4, .int a4), (5, .int a5)]) rfl rfl (by decide) rfl rfl ?_
              refine x_goto (tgt := 117) rfl rfl ?_
              refine x_iload (x := 74) rfl rfl ?_
              refine x_bipush (v := 90) rfl kb_90 ?_
              refine x_icge (tgt := 141) rfl rfl (br_f (by decide) ?_)
              refine x_aloadn (x := 125) rfl rfl ?_
              refine x_getR (b := 126) 12 2 rfl f_12_8 rfl (congrArg Prod.fst (F.1 125 (12, 92) rfl rfl)) (F.2.1 16002 126 rfl rfl) ?_
              refine x_iload (x := 20) rfl rfl ?_
              refine x_iload (x := 74) rfl rfl ?_
              refine y_iadd (v := 94) rfl (by decide) ?_
              refine x_iconst (v := 0) rfl ki_0 ?_
              refine y_iast (N := 50660) 94 rfl (F.1 126 (100, 50660) rfl rfl) rfl (jinb_of (by decide)) (by decide) ?_
              refine x_iinc (x := 74) (v := 75) (ls' := [(9, .int 75), (8, .int 20), (7, .int 0), (6, .int 1), (0, .ref 125), (1, .int a1), (2, .int a2), (3, .int a3), (4, .int a4), (5, .int a5)]) rfl rfl (by decide) rfl rfl ?_
              refine x_goto (tgt := 117) rfl rfl ?_
              refine x_iload (x := 75) rfl rfl ?_
              refine x_bipush (v := 90) rfl kb_90 ?_
              refine x_icge (tgt := 141) rfl rfl (br_f (by decide) ?_)
              refine x_aloadn (x := 125) rfl rfl ?_
              refine x_getR (b := 126) 12 2 rfl f_12_8 rfl (congrArg Prod.fst (F.1 125 (12, 92) rfl rfl)) (F.2.1 16002 126 rfl rfl) ?_
              refine x_iload (x := 20) rfl rfl ?_
              refine x_iload (x := 75) rfl rfl ?_
              refine y_iadd (v := 95) rfl (by decide) ?_
              refine x_iconst (v := 0) rfl ki_0 ?_
              refine y_iast (N := 50660) 95 rfl (F.1 126 (100, 50660) rfl rfl) rfl (jinb_of (by decide)) (by decide) ?_
              refine x_iinc (x := 75) (v := 76) (ls' := [(9, .int 76), (8, .int 20), (7, .int 0), (6, .int 1), (0, .ref 125), (1, .int a1), (2, .int a2), (3, .int a3), (4, .int a4), (5, .int a5)]) rfl rfl (by decide) rfl rfl ?_
              refine x_goto (tgt := 117) rfl rfl ?_
              refine x_iload (x := 76) rfl rfl ?_
              refine x_bipush (v := 90) rfl kb_90 ?_
              refine x_icge (tgt := 141) rfl rfl (br_f (by decide) ?_)
              refine x_aloadn (x := 125) rfl rfl ?_
              refine x_getR (b := 126) 12 2 rfl f_12_8 rfl (congrArg Prod.fst (F.1 125 (12, 92) rfl rfl)) (F.2.1 16002 126 rfl rfl) ?_
              refine x_iload (x := 20) rfl rfl ?_
              refine x_iload (x := 76) rfl rfl ?_
              refine y_iadd (v := 96) rfl (by decide) ?_
              refine x_iconst (v := 0) rfl ki_0 ?_
              refine y_iast (N := 50660) 96 rfl (F.1 126 (100, 50660) rfl rfl) rfl (jinb_of (by decide)) (by decide) ?_
              refine x_iinc (x := 76) (v := 77) (ls' := [(9, .int 77), (8, .int 20), (7, .int 0), (6, .int 1), (0, .ref 125), (1, .int a1), (2, .int a2), (3, .int a3), (4, .int a4), (5, .int a5)]) rfl rfl (by decide) rfl rfl ?_
              refine x_goto (tgt := 117) rfl rfl ?_
              refine x_iload (x := 77) rfl rfl ?_
              refine x_bipush (v := 90) rfl kb_90 ?_
              refine x_icge (tgt := 141) rfl rfl (br_f (by decide) ?_)
              refine x_aloadn (x := 125) rfl rfl ?_
              refine x_getR (b := 126) 12 2 rfl f_12_8 rfl (congrArg Prod.fst (F.1 125 (12, 92) rfl rfl)) (F.2.1 16002 126 rfl rfl) ?_
              refine x_iload (x := 20) rfl rfl ?_
              refine x_iload (x := 77) rfl rfl ?_
              refine y_iadd (v := 97) rfl (by decide) ?_
              refine x_iconst (v := 0) rfl ki_0 ?_
              refine y_iast (N := 50660) 97 rfl (F.1 126 (100, 50660) rfl rfl) rfl (jinb_of (by decide)) (by decide) ?_
              refine x_iinc (x := 77) (v := 78) (ls' := [(9, .int 78), (8, .int 20), (7, .int 0), (6, .int 1), (0, .ref 125), (1, .int a1), (2, .int a2), (3, .int a3), (4, .int a4), (5, .int a5)]) rfl rfl (by decide) rfl rfl ?_
              refine x_goto (tgt := 117) rfl rfl ?_
              refine x_iload (x := 78) rfl rfl ?_
              refine x_bipush (v := 90) rfl kb_90 ?_
              refine x_icge (tgt := 141) rfl rfl (br_f (by decide) ?_)
              refine x_aloadn (x := 125) rfl rfl ?_
              refine x_getR (b := 126) 12 2 rfl f_12_8 rfl (congrArg Prod.fst (F.1 125 (12, 92) rfl rfl)) (F.2.1 16002 126 rfl rfl) ?_
              refine x_iload (x := 20) rfl rfl ?_
              refine x_iload (x := 78) rfl rfl ?_
              refine y_iadd (v := 98) rfl (by decide) ?_
              refine x_iconst (v := 0) rfl ki_0 ?_
              refine y_iast (N := 50660) 98 rfl (F.1 126 (100, 50660) rfl rfl) rfl (jinb_of (by decide)) (by decide) ?_
              refine x_iinc (x := 78) (v := 79) (ls' := [(9, .int 79), (8, .int 20), (7, .int 0), (6, .int 1), (0, .ref 125), (1, .int a1), (2, .int a2), (3, .int a3), (4, .int a4), (5, .int a5)]) rfl rfl (by decide) rfl rfl ?_
              refine x_goto (tgt := 117) rfl rfl ?_
              refine x_iload (x := 79) rfl rfl ?_
              refine x_bipush (v := 90) rfl kb_90 ?_
              refine x_icge (tgt := 141) rfl rfl (br_f (by decide) ?_)
              refine x_aloadn (x := 125) rfl rfl ?_
              refine x_getR (b := 126) 12 2 rfl f_12_8 rfl (congrArg Prod.fst (F.1 125 (12, 92) rfl rfl)) (F.2.1 16002 126 rfl rfl) ?_
              refine x_iload (x := 20) rfl rfl ?_
              refine x_iload (x := 79) rfl rfl ?_
              refine y_iadd (v := 99) rfl (by decide) ?_
              refine x_iconst (v := 0) rfl ki_0 ?_
              refine y_iast (N := 50660) 99 rfl (F.1 126 (100, 50660) rfl rfl) rfl (jinb_of (by decide)) (by decide) ?_
              refine x_iinc (x := 79) (v := 80) (ls' := [(9, .int 80), (8, .int 20), (7, .int 0), (6, .int 1), (0, .ref 125), (1, .int a1), (2, .int a2), (3, .int a3), (4, .int a4), (5, .int a5)]) rfl rfl (by decide) rfl rfl ?_
              refine x_goto (tgt := 117) rfl rfl ?_
              refine x_iload (x := 80) rfl rfl ?_
              refine x_bipush (v := 90) rfl kb_90 ?_
              refine x_icge (tgt := 141) rfl rfl (br_f (by decide) ?_)
              refine x_aloadn (x := 125) rfl rfl ?_
              refine x_getR (b := 126) 12 2 rfl f_12_8 rfl (congrArg Prod.fst (F.1 125 (12, 92) rfl rfl)) (F.2.1 16002 126 rfl rfl) ?_
              refine x_iload (x := 20) rfl rfl ?_
              refine x_iload (x := 80) rfl rfl ?_
              refine y_iadd (v := 100) rfl (by decide) ?_
              refine x_iconst (v := 0) rfl ki_0 ?_
              refine y_iast (N := 50660) 100 rfl (F.1 126 (100, 50660) rfl rfl) rfl (jinb_of (by decide)) (by decide) ?_
              refine x_iinc (x := 80) (v := 81) (ls' := [(9, .int 81), (8, .int 20), (7, .int 0), (6, .int 1), (0, .ref 125), (1, .int a1), (2, .int a2), (3, .int a3), (4, .int a4), (5, .int a5)]) rfl rfl (by decide) rfl rfl ?_
              refine x_goto (tgt := 117) rfl rfl ?_
              refine x_iload (x := 81) rfl rfl ?_
              refine x_bipush (v := 90) rfl kb_90 ?_
              refine x_icge (tgt := 141) rfl rfl (br_f (by decide) ?_)
              refine x_aloadn (x := 125) rfl rfl ?_
              refine x_getR (b := 126) 12 2 rfl f_12_8 rfl (congrArg Prod.fst (F.1 125 (12, 92) rfl rfl)) (F.2.1 16002 126 rfl rfl) ?_
              refine x_iload (x := 20) rfl rfl ?_
              refine x_iload (x := 81) rfl rfl ?_
              refine y_iadd (v := 101) rfl (by decide) ?_
              refine x_iconst (v := 0) rfl ki_0 ?_
              refine y_iast (N := 50660) 101 rfl (F.1 126 (100, 50660) rfl rfl) rfl (jinb_of (by decide)) (by decide) ?_
              refine x_iinc (x := 81) (v := 82) (ls' := [(9, .int 82), (8, .int 20), (7, .int 0), (6, .int 1), (0, .ref 125), (1, .int a1), (2, .int a2), (3, .int a3), (4, .int a4), (5, .int a5)]) rfl rfl (by decide) rfl rfl ?_
              refine x_goto (tgt := 117) rfl rfl ?_
              refine x_iload (x := 82) rfl rfl ?_
              refine x_bipush (v := 90) rfl kb_90 ?_
              refine x_icge (tgt := 141) rfl rfl (br_f (by decide) ?_)
              refine x_aloadn (x := 125) rfl rfl ?_
              refine x_getR (b := 126) 12 2 rfl f_12_8 rfl (congrArg Prod.fst (F.1 125 (12, 92) rfl rfl)) (F.2.1 16002 126 rfl rfl) ?_
              refine x_iload (x := 20) rfl rfl ?_
              refine x_iload (x := 82) rfl rfl ?_
              refine y_iadd (v := 102) rfl (by decide) ?_
              refine x_iconst (v := 0) rfl ki_0 ?_
              refine y_iast (N := 50660) 102 rfl (F.1 126 (100, 50660) rfl rfl) rfl (jinb_of (by decide)) (by decide) ?_
              refine x_iinc (x := 82) (v := 83) (ls' := [(9, .int 83), (8, .int 20), (7, .int 0), (6, .int 1), (0, .ref 125), (1, .int a1), (2, .int a2), (3, .int a3), (4, .int a4), (5, .int a5)]) rfl rfl (by decide) rfl rfl ?_
              refine x_goto (tgt := 117) rfl rfl ?_
              refine x_iload (x := 83) rfl rfl ?_
              refine x_bipush (v := 90) rfl kb_90 ?_
              refine x_icge (tgt := 141) rfl rfl (br_f (by decide) ?_)
              refine x_aloadn (x := 125) rfl rfl ?_
              refine x_getR (b := 126) 12 2 rfl f_12_8 rfl (congrArg Prod.fst (F.1 125 (12, 92) rfl rfl)) (F.2.1 16002 126 rfl rfl) ?_
              refine x_iload (x := 20) rfl rfl ?_
              refine x_iload (x := 83) rfl rfl ?_
              refine y_iadd (v := 103) rfl (by decide) ?_
              refine x_iconst (v := 0) rfl ki_0 ?_
              refine y_iast (N := 50660) 103 rfl (F.1 126 (100, 50660) rfl rfl) rfl (jinb_of (by decide)) (by decide) ?_
              refine x_iinc (x := 83) (v := 84) (ls' := [(9, .int 84), (8, .int 20), (7, .int 0), (6, .int 1), (0, .ref 125), (1, .int a1), (2, .int a2), (3, .int a3), (4, .int a4), (5, .int a5)]) rfl rfl (by decide) rfl rfl ?_
              refine x_goto (tgt := 117) rfl rfl ?_
              refine x_iload (x := 84) rfl rfl ?_
              refine x_bipush (v := 90) rfl kb_90 ?_
              refine x_icge (tgt := 141) rfl rfl (br_f (by decide) ?_)
              refine x_aloadn (x := 125) rfl rfl ?_
              refine x_getR (b := 126) 12 2 rfl f_12_8 rfl (congrArg Prod.fst (F.1 125 (12, 92) rfl rfl)) (F.2.1 16002 126 rfl rfl) ?_
              refine x_iload (x := 20) rfl rfl ?_
              refine x_iload (x := 84) rfl rfl ?_
              refine y_iadd (v := 104) rfl (by decide) ?_
              refine x_iconst (v := 0) rfl ki_0 ?_
              refine y_iast (N := 50660) 104 rfl (F.1 126 (100, 50660) rfl rfl) rfl (jinb_of (by decide)) (by decide) ?_
              refine x_iinc (x := 84) (v := 85) (ls' := [(9, .int 85), (8, .int 20), (7, .int 0), (6, .int 1), (0, .ref 125), (1, .int a1), (2, .int a2), (3, .int a3), (4, .int a4), (5, .int a5)]) rfl rfl (by decide) rfl rfl ?_
              refine x_goto (tgt := 117) rfl rfl ?_
              refine x_iload (x := 85) rfl rfl ?_
              refine x_bipush (v := 90) rfl kb_90 ?_
              refine x_icge (tgt := 141) rfl rfl (br_f (by decide) ?_)
              refine x_aloadn (x := 125) rfl rfl ?_
              refine x_getR (b := 126) 12 2 rfl f_12_8 rfl (congrArg Prod.fst (F.1 125 (12, 92) rfl rfl)) (F.2.1 16002 126 rfl rfl) ?_
              refine x_iload (x := 20) rfl rfl ?_
              refine x_iload (x := 85) rfl rfl ?_
              refine y_iadd (v := 105) rfl (by decide) ?_
              refine x_iconst (v := 0) rfl ki_0 ?_
              refine y_iast (N := 50660) 105 rfl (F.1 126 (100, 50660) rfl rfl) rfl (jinb_of (by decide)) (by decide) ?_
              refine x_iinc (x := 85) (v := 86) (ls' := [(9, .int 86), (8, .int 20), (7, .int 0), (6, .int 1), (0, .ref 125), (1, .int a1), (2, .int a2), (3, .int a3), (4, .int a4), (5, .int a5)]) rfl rfl (by decide) rfl rfl ?_
              refine x_goto (tgt := 117) rfl rfl ?_
              refine x_iload (x := 86) rfl rfl ?_
              refine x_bipush (v := 90) rfl kb_90 ?_
              refine x_icge (tgt := 141) rfl rfl (br_f (by decide) ?_)
              refine x_aloadn (x := 125) rfl rfl ?_
              refine x_getR (b := 126) 12 2 rfl f_12_8 rfl (congrArg Prod.fst (F.1 125 (12, 92) rfl rfl)) (F.2.1 16002 126 rfl rfl) ?_
              refine x_iload (x := 20) rfl rfl ?_
              refine x_iload (x := 86) rfl rfl ?_
              refine y_iadd (v := 106) rfl (by decide) ?_
              refine x_iconst (v := 0) rfl ki_0 ?_
              refine y_iast (N := 50660) 106 rfl (F.1 126 (100, 50660) rfl rfl) rfl (jinb_of (by decide)) (by decide) ?_
              refine x_iinc (x := 86) (v := 87) (ls' := [(9, .int 87), (8, .int 20), (7, .int 0), (6, .int 1), (0, .ref 125), (1, .int a1), (2, .int a2), (3, .int a3), (4, .int a4), (5, .int a5)]) rfl rfl (by decide) rfl rfl ?_
              refine x_goto (tgt := 117) rfl rfl ?_
              refine x_iload (x := 87) rfl rfl ?_
              refine x_bipush (v := 90) rfl kb_90 ?_
              refine x_icge (tgt := 141) rfl rfl (br_f (by decide) ?_)
              refine x_aloadn (x := 125) rfl rfl ?_
              refine x_getR (b := 126) 12 2 rfl f_12_8 rfl (congrArg Prod.fst (F.1 125 (12, 92) rfl rfl)) (F.2.1 16002 126 rfl rfl) ?_
              refine x_iload (x := 20) rfl rfl ?_
              refine x_iload (x := 87) rfl rfl ?_
              refine y_iadd (v := 107) rfl (by decide) ?_
              refine x_iconst (v := 0) rfl ki_0 ?_
              refine y_iast (N := 50660) 107 rfl (F.1 126 (100, 50660) rfl rfl) rfl (jinb_of (by decide)) (by decide) ?_
              refine x_iinc (x := 87) (v := 88) (ls' := [(9, .int 88), (8, .int 20), (7, .int 0), (6, .int 1), (0, .ref 125), (1, .int a1), (2, .int a2), (3, .int a3), (4, .int a4), (5, .int a5)]) rfl rfl (by decide) rfl rfl ?_
              refine x_goto (tgt := 117) rfl rfl ?_
              refine x_iload (x := 88) rfl rfl ?_
              refine x_bipush (v := 90) rfl kb_90 ?_
              refine x_icge (tgt := 141) rfl rfl (br_f (by decide) ?_)
              refine x_aloadn (x := 125) rfl rfl ?_
              refine x_getR (b := 126) 12 2 rfl f_12_8 rfl (congrArg Prod.fst (F.1 125 (12, 92) rfl rfl)) (F.2.1 16002 126 rfl rfl) ?_
              refine x_iload (x := 20) rfl rfl ?_
              refine x_iload (x := 88) rfl rfl ?_
              refine y_iadd (v := 108) rfl (by decide) ?_
              refine x_iconst (v := 0) rfl ki_0 ?_
              refine y_iast (N := 50660) 108 rfl (F.1 126 (100, 50660) rfl rfl) rfl (jinb_of (by decide)) (by decide) ?_
              refine x_iinc (x := 88) (v := 89) (ls' := [(9, .int 89), (8, .int 20), (7, .int 0), (6, .int 1), (0, .ref 125), (1, .int a1), (2, .int a2), (3, .int a3), (4, .int a4), (5, .int a5)]) rfl rfl (by decide) rfl rfl ?_
              refine x_goto (tgt := 117) rfl rfl ?_
              refine x_iload (x := 89) rfl rfl ?_
              refine x_bipush (v := 90) rfl kb_90 ?_
              refine x_icge (tgt := 141) rfl rfl (br_f (by decide) ?_)
              refine x_aloadn (x := 125) rfl rfl ?_
              refine x_getR (b := 126) 12 2 rfl f_12_8 rfl (congrArg Prod.fst (F.1 125 (12, 92) rfl rfl)) (F.2.1 16002 126 rfl rfl) ?_
              refine x_iload (x := 20) rfl rfl ?_
              refine x_iload (x := 89) rfl rfl ?_
              refine y_iadd (v := 109) rfl (by decide) ?_
              refine x_iconst (v := 0) rfl ki_0 ?_
              refine y_iast (N := 50660) 109 rfl (F.1 126 (100, 50660) rfl rfl) rfl (jinb_of (by decide)) (by decide) ?_
              refine x_iinc (x := 89) (v := 90) (ls' := [(9, .int 90), (8, .int 20), (7, .int 0), (6, .int 1), (0, .ref 125), (1, .int a1), (2, .int a2), (3, .int a3), (4, .int a4), (5, .int a5)]) rfl rfl (by decide) rfl rfl ?_
              refine x_goto (tgt := 117) rfl rfl ?_
              refine x_iload (x := 90) rfl rfl ?_
              refine x_bipush (v := 90) rfl kb_90 ?_
              refine x_icge (tgt := 141) rfl rfl (br_t (by decide) ?_)
              refine x_aloadn (x := 125) rfl rfl ?_
              refine x_inv (N := m_X12_begin) (As := []) (b := 125) (st := []) (d' := 99) (mc := 0) (ms := 0) (host := "") 12 rfl t_X12_begin ⟨Or.inl q_12_280, i_X12_begin.1, i_X12_begin.2⟩ ⟨by decide, rfl⟩ (congrArg Prod.fst (F.1 125 (12, 92) rfl rfl)) rfl (by decide) rfl rfl ⟨by decide, by decide⟩ (jC.of rfl k_X12_begin rfl ?_)
              show jX m_X12_begin 99 0 0 0 [(0, .ref 125)] [] _ 0 0 _
              refine x_aloadn (x := 125) rfl rfl ?_
              refine x_iconst (v := 0) rfl ki_0 ?_
              refine x_putI 12 10 rfl f_12_211 rfl (jfin_no TX12 RX12 92 rfl rfl) (congrArg Prod.fst (F.1 125 (12, 92) rfl rfl)) rfl ?_
              refine x_aloadn (x := 125) rfl rfl ?_
              refine x_iconst (v := 0) rfl ki_0 ?_
              refine x_putZ 12 14 rfl f_12_214 rfl (jfin_no TX12 RX12 92 rfl rfl) (congrArg Prod.fst (F.1 125 (12, 92) rfl rfl)) rfl (by decide) ?_
              refine x_aloadn (x := 125) rfl rfl ?_
              refine x_iconst (v := (-1)) rfl ki_m1 ?_
              refine x_putI 12 13 rfl f_12_32 rfl (jfin_no TX12 RX12 92 rfl rfl) (congrArg Prod.fst (F.1 125 (12, 92) rfl rfl)) rfl ?_
              refine x_aloadn (x := 125) rfl rfl ?_
              refine x_inv (N := m_X12_next) (As := []) (b := 125) (st := []) (d' := 98) (mc := 0) (ms := 0) (host := "") 12 rfl t_X12_next ⟨Or.inl q_12_218, i_X12_next.1, i_X12_next.2⟩ ⟨by decide, rfl⟩ (congrArg Prod.fst (F.1 125 (12, 92) rfl rfl)) rfl (by decide) rfl rfl ⟨by decide, by decide⟩ (jC.of rfl k_X12_next rfl ?_)
              show jX m_X12_next 98 0 0 0 [(0, .ref 125)] [] _ 0 0 _
              refine x_aloadn (x := 125) rfl rfl ?_
              refine x_aloadn (x := 125) rfl rfl ?_
              refine y_getI (v := 0) 12 10 rfl f_12_211 rfl (congrArg Prod.fst (F.1 125 (12, 92) rfl rfl)) rfl ?_
              refine x_putI 12 9 rfl f_12_221 rfl (jfin_no TX12 RX12 92 rfl rfl) (congrArg Prod.fst (F.1 125 (12, 92) rfl rfl)) rfl ?_
              refine x_aloadn (x := 125) rfl rfl ?_
              refine y_getI (v := 0) 12 9 rfl f_12_221 rfl (congrArg Prod.fst (F.1 125 (12, 92) rfl rfl)) rfl ?_
              refine x_aloadn (x := 125) rfl rfl ?_
              refine y_getI (v := 0) 12 8 rfl f_12_201 rfl (congrArg Prod.fst (F.1 125 (12, 92) rfl rfl)) (F.2.2.1 16008 0 rfl rfl) ?_
              refine x_icge (tgt := 46) rfl rfl (br_t (by decide) ?_)
              refine x_aloadn (x := 125) rfl rfl ?_
              refine x_aloadn (x := 125) rfl rfl ?_
              refine y_getI (v := 0) 12 9 rfl f_12_221 rfl (congrArg Prod.fst (F.1 125 (12, 92) rfl rfl)) rfl ?_
              refine x_putI 12 10 rfl f_12_211 rfl (jfin_no TX12 RX12 92 rfl rfl) (congrArg Prod.fst (F.1 125 (12, 92) rfl rfl)) rfl ?_
              refine x_aloadn (x := 125) rfl rfl ?_
              refine x_lconst (v := 0) rfl kl_0 ?_
              refine x_putL 12 12 rfl f_12_224 rfl (jfin_no TX12 RX12 92 rfl rfl) (congrArg Prod.fst (F.1 125 (12, 92) rfl rfl)) rfl ?_
              refine x_aloadn (x := 125) rfl rfl ?_
              refine x_aloadn (x := 125) rfl rfl ?_
              refine y_getI (v := 0) 12 9 rfl f_12_221 rfl (congrArg Prod.fst (F.1 125 (12, 92) rfl rfl)) rfl ?_
              refine x_aloadn (x := 125) rfl rfl ?_
              refine y_getI (v := 0) 12 8 rfl f_12_201 rfl (congrArg Prod.fst (F.1 125 (12, 92) rfl rfl)) (F.2.2.1 16008 0 rfl rfl) ?_
              refine x_icne (tgt := 75) rfl rfl (bn_f (by decide) ?_)
              refine x_iconst (v := 0) rfl ki_0 ?_
              refine x_goto (tgt := 114) rfl rfl ?_
              refine x_putI 12 11 rfl f_12_235 rfl (jfin_no TX12 RX12 92 rfl rfl) (congrArg Prod.fst (F.1 125 (12, 92) rfl rfl)) rfl ?_
              refine x_aloadn (x := 125) rfl rfl ?_
              refine y_getI (v := 0) 12 11 rfl f_12_235 rfl (congrArg Prod.fst (F.1 125 (12, 92) rfl rfl)) rfl ?_
              refine x_iconst (v := 3) rfl ki_3 ?_
              refine x_icne (tgt := 149) rfl rfl (bn_t (by decide) ?_)
              refine x_aloadn (x := 125) rfl rfl ?_
              refine y_getI (v := 0) 12 11 rfl f_12_235 rfl (congrArg Prod.fst (F.1 125 (12, 92) rfl rfl)) rfl ?_
              refine x_iconst (v := 1) rfl ki_1 ?_
              refine x_icne (tgt := 243) rfl rfl (bn_t (by decide) ?_)
              refine x_aloadn (x := 125) rfl rfl ?_
              refine y_getI (v := 0) 12 11 rfl f_12_235 rfl (congrArg Prod.fst (F.1 125 (12, 92) rfl rfl)) rfl ?_
              refine x_iconst (v := 2) rfl ki_2 ?_
              refine x_icne (tgt := 335) rfl rfl (bn_t (by decide) ?_)
              refine x_vret rfl rfl ?_
              show jX m_X12_begin 99 0 0 19 [(0, .ref 125)] [] _ 0 0 _
              refine x_vret rfl rfl ?_
              show jX m_X12_line 100 0 0 145 [(9, .int 90), (8, .int 20), (7, .int 0), (6, .int 1), (0, .ref 125), (1, .int a1), (2, .int a2), (3, .int a3), (4, .int a4), (5, .int a5)] [] _ 0 0 _
              refine x_iconst (v := 0) rfl ki_0 ?_
              refine x_istore (ls' := [(9, .int 0), (8, .int 20), (7, .int 0), (6, .int 1), (0, .ref 125), (1, .int a1), (2, .int a2), (3, .int a3), (4, .int a4), (5, .int a5)]) rfl rfl rfl ?_
              refine x_aloadn (x := 125) rfl rfl ?_
              refine y_getI (v := 0) 12 11 rfl f_12_235 rfl (congrArg Prod.fst (F.1 125 (12, 92) rfl rfl)) rfl ?_
              refine x_ifeq (tgt := 168) rfl rfl (br_t (by decide) ?_)
              refine x_iconst (v := 0) rfl ki_0 ?_
              refine x_istore (ls' := [(10, .int 0), (9, .int 0), (8, .int 20), (7, .int 0), (6, .int 1), (0, .ref 125), (1, .int a1), (2, .int a2), (3, .int a3), (4, .int a4), (5, .int a5)]) rfl rfl rfl ?_
              refine x_iload (x := 0) rfl rfl ?_
              refine x_ifeq (tgt := 250) rfl rfl (br_t (by decide) ?_)
              refine x_aloadn (x := 125) rfl rfl ?_
              refine y_getI (v := 0) 12 14 rfl f_12_214 rfl (congrArg Prod.fst (F.1 125 (12, 92) rfl rfl)) rfl ?_
              refine x_ifne (tgt := 268) rfl rfl (bn_f (by decide) ?_)
              refine x_aloadn (x := 125) rfl rfl ?_
              refine y_getI (v := 0) 12 11 rfl f_12_235 rfl (congrArg Prod.fst (F.1 125 (12, 92) rfl rfl)) rfl ?_
              refine x_ifeq (tgt := 268) rfl rfl (br_t (by decide) ?_)
              refine x_iconst (v := 0) rfl ki_0 ?_
              refine x_istore (ls' := [(11, .int 0), (10, .int 0), (9, .int 0), (8, .int 20), (7, .int 0), (6, .int 1), (0, .ref 125), (1, .int a1), (2, .int a2), (3, .int a3), (4, .int a4), (5, .int a5)]) rfl rfl rfl ?_
              refine x_iload (x := 0) rfl rfl ?_
              refine x_ifeq (tgt := 305) rfl rfl (br_t (by decide) ?_)
              refine x_aloadn (x := 125) rfl rfl ?_
              refine x_iconst (v := 0) rfl ki_0 ?_
              refine x_putI 12 8 rfl f_12_201 rfl (jfin_no TX12 RX12 92 rfl rfl) (congrArg Prod.fst (F.1 125 (12, 92) rfl rfl)) rfl ?_
              refine x_aloadn (x := 125) rfl rfl ?_
              refine y_getI (v := 0) 12 14 rfl f_12_214 rfl (congrArg Prod.fst (F.1 125 (12, 92) rfl rfl)) rfl ?_
              refine x_ifeq (tgt := 324) rfl rfl (br_t (by decide) ?_)
              refine x_aloadn (x := 125) rfl rfl ?_
              refine x_getR (b := 126) 12 2 rfl f_12_8 rfl (congrArg Prod.fst (F.1 125 (12, 92) rfl rfl)) (F.2.1 16002 126 rfl rfl) ?_
              refine x_iload (x := 20) rfl rfl ?_
              refine x_iloadn (x := a1) rfl rfl ?_
              refine y_iast (N := 50660) 20 rfl (F.1 126 (100, 50660) rfl rfl) rfl (jinb_of (by decide)) (by decide) ?_
              refine x_aloadn (x := 125) rfl rfl ?_
              refine x_getR (b := 126) 12 2 rfl f_12_8 rfl (congrArg Prod.fst (F.1 125 (12, 92) rfl rfl)) (F.2.1 16002 126 rfl rfl) ?_
              refine x_iload (x := 20) rfl rfl ?_
              refine x_iconst (v := 1) rfl ki_1 ?_
              refine y_iadd (v := 21) rfl (by decide) ?_
              refine x_iloadn (x := a2) rfl rfl ?_
              refine y_iast (N := 50660) 21 rfl (F.1 126 (100, 50660) rfl rfl) rfl (jinb_of (by decide)) (by decide) ?_
              refine x_aloadn (x := 125) rfl rfl ?_
              refine x_getR (b := 126) 12 2 rfl f_12_8 rfl (congrArg Prod.fst (F.1 125 (12, 92) rfl rfl)) (F.2.1 16002 126 rfl rfl) ?_
              refine x_iload (x := 20) rfl rfl ?_
              refine x_iconst (v := 2) rfl ki_2 ?_
              refine y_iadd (v := 22) rfl (by decide) ?_
              refine x_iloadn (x := a3) rfl rfl ?_
              refine y_iast (N := 50660) 22 rfl (F.1 126 (100, 50660) rfl rfl) rfl (jinb_of (by decide)) (by decide) ?_
              refine x_aloadn (x := 125) rfl rfl ?_
              refine x_getR (b := 126) 12 2 rfl f_12_8 rfl (congrArg Prod.fst (F.1 125 (12, 92) rfl rfl)) (F.2.1 16002 126 rfl rfl) ?_
              refine x_iload (x := 20) rfl rfl ?_
              refine x_iconst (v := 3) rfl ki_3 ?_
              refine y_iadd (v := 23) rfl (by decide) ?_
              refine x_iload (x := a4) rfl rfl ?_
              refine y_iast (N := 50660) 23 rfl (F.1 126 (100, 50660) rfl rfl) rfl (jinb_of (by decide)) (by decide) ?_
              refine x_aloadn (x := 125) rfl rfl ?_
              refine x_getR (b := 126) 12 2 rfl f_12_8 rfl (congrArg Prod.fst (F.1 125 (12, 92) rfl rfl)) (F.2.1 16002 126 rfl rfl) ?_
              refine x_iload (x := 20) rfl rfl ?_
              refine x_iconst (v := 4) rfl ki_4 ?_
              refine y_iadd (v := 24) rfl (by decide) ?_
              refine x_iload (x := a5) rfl rfl ?_
              refine y_iast (N := 50660) 24 rfl (F.1 126 (100, 50660) rfl rfl) rfl (jinb_of (by decide)) (by decide) ?_
              refine x_aloadn (x := 125) rfl rfl ?_
              refine x_getR (b := 126) 12 2 rfl f_12_8 rfl (congrArg Prod.fst (F.1 125 (12, 92) rfl rfl)) (F.2.1 16002 126 rfl rfl) ?_
              refine x_iload (x := 20) rfl rfl ?_
              refine x_iconst (v := 5) rfl ki_5 ?_
              refine y_iadd (v := 25) rfl (by decide) ?_
              refine x_iload (x := 0) rfl rfl ?_
              refine x_ifeq (tgt := 391) rfl rfl (br_t (by decide) ?_)
              refine x_iconst (v := 1) rfl ki_1 ?_
              refine y_iast (N := 50660) 25 rfl (F.1 126 (100, 50660) rfl rfl) rfl (jinb_of (by decide)) (by decide) ?_
              refine x_aloadn (x := 125) rfl rfl ?_
              refine x_getR (b := 126) 12 2 rfl f_12_8 rfl (congrArg Prod.fst (F.1 125 (12, 92) rfl rfl)) (F.2.1 16002 126 rfl rfl) ?_
              refine x_iconst (v := 0) rfl ki_0 ?_
              refine x_dup2 rfl rfl rfl ?_
              refine y_iald (v := 0) (N := 50660) 0 rfl (F.1 126 (100, 50660) rfl rfl) (jinb_of (by decide)) (by decide) (F.2.2.2.1 126 rfl rfl 0).1 ?_
              refine x_iconst (v := 1) rfl ki_1 ?_
              refine y_iadd (v := 1) rfl (by decide) ?_
              refine y_iast (N := 50660) 0 rfl (F.1 126 (100, 50660) rfl rfl) rfl (jinb_of (by decide)) (by decide) ?_
              refine x_aloadn (x := 125) rfl rfl ?_
              refine x_iconst (v := 0) rfl ki_0 ?_
              refine x_iload (x := 0) rfl rfl ?_
              refine x_inv (N := m_X12_thing) (As := [.int 0, .int 0]) (b := 125) (st := []) (d' := 99) (mc := 0) (ms := 0) (host := "") 12 rfl t_X12_thing ⟨Or.inl q_12_289, i_X12_thing.1, i_X12_thing.2⟩ ⟨by decide, rfl⟩ (congrArg Prod.fst (F.1 125 (12, 92) rfl rfl)) rfl (by decide) rfl rfl ⟨by decide, by decide⟩ (jC.of rfl k_X12_thing rfl ?_)
              show jX m_X12_thing 99 0 0 0 [(0, .ref 125), (1, .int 0), (2, .int 0)] [] _ 0 0 _
              refine x_ldc (v := 49920) rfl z_12_194 ?_
              refine x_iconst (v := 2) rfl ki_2 ?_
              refine x_aloadn (x := 125) rfl rfl ?_
              refine x_getR (b := 126) 12 2 rfl f_12_8 rfl (congrArg Prod.fst (F.1 125 (12, 92) rfl rfl)) (F.2.1 16002 126 rfl rfl) ?_
              refine x_bipush (v := 16) rfl kb_16 ?_
              refine y_iald (v := 0) (N := 50660) 16 rfl (F.1 126 (100, 50660) rfl rfl) (jinb_of (by decide)) (by decide) (F.2.2.2.1 126 rfl rfl 16).1 ?_
              refine y_imul (v := 0) rfl (by decide) ?_
              refine y_iadd (v := 49920) rfl (by decide) ?_
              refine x_istoren (ls' := [(3, .int 49920), (0, .ref 125), (1, .int 0), (2, .int 0)]) rfl rfl rfl ?_
              refine x_aloadn (x := 125) rfl rfl ?_
              refine x_getR (b := 126) 12 2 rfl f_12_8 rfl (congrArg Prod.fst (F.1 125 (12, 92) rfl rfl)) (F.2.1 16002 126 rfl rfl) ?_
              refine x_iloadn (x := 49920) rfl rfl ?_
              refine x_iloadn (x := 0) rfl rfl ?_
              refine y_iast (N := 50660) 49920 rfl (F.1 126 (100, 50660) rfl rfl) rfl (jinb_of (by decide)) (by decide) ?_
              refine x_aloadn (x := 125) rfl rfl ?_
              refine x_getR (b := 126) 12 2 rfl f_12_8 rfl (congrArg Prod.fst (F.1 125 (12, 92) rfl rfl)) (F.2.1 16002 126 rfl rfl) ?_
              refine x_iloadn (x := 49920) rfl rfl ?_
              refine x_iconst (v := 1) rfl ki_1 ?_
              refine y_iadd (v := 49921) rfl (by decide) ?_
              refine x_iloadn (x := 0) rfl rfl ?_
              refine y_iast (N := 50660) 49921 rfl (F.1 126 (100, 50660) rfl rfl) rfl (jinb_of (by decide)) (by decide) ?_
              refine x_aloadn (x := 125) rfl rfl ?_
              refine x_getR (b := 126) 12 2 rfl f_12_8 rfl (congrArg Prod.fst (F.1 125 (12, 92) rfl rfl)) (F.2.1 16002 126 rfl rfl) ?_
              refine x_bipush (v := 16) rfl kb_16 ?_
              refine x_dup2 rfl rfl rfl ?_
              refine y_iald (v := 0) (N := 50660) 16 rfl (F.1 126 (100, 50660) rfl rfl) (jinb_of (by decide)) (by decide) (F.2.2.2.1 126 rfl rfl 16).1 ?_
              refine x_iconst (v := 1) rfl ki_1 ?_
              refine y_iadd (v := 1) rfl (by decide) ?_
              refine y_iast (N := 50660) 16 rfl (F.1 126 (100, 50660) rfl rfl) rfl (jinb_of (by decide)) (by decide) ?_
              refine x_vret rfl rfl ?_
              show jX m_X12_line 100 0 0 410 [(11, .int 0), (10, .int 0), (9, .int 0), (8, .int 20), (7, .int 0), (6, .int 1), (0, .ref 125), (1, .int a1), (2, .int a2), (3, .int a3), (4, .int a4), (5, .int a5)] [] _ 0 0 _
              refine x_aloadn (x := 125) rfl rfl ?_
              refine x_iload (x := 0) rfl rfl ?_
              refine x_inv (N := m_X12_told) (As := [.int 0]) (b := 125) (st := []) (d' := 99) (mc := 0) (ms := 0) (host := "") 12 rfl t_X12_told ⟨Or.inl q_12_197, i_X12_told.1, i_X12_told.2⟩ ⟨by decide, rfl⟩ (congrArg Prod.fst (F.1 125 (12, 92) rfl rfl)) rfl (by decide) rfl rfl ⟨by decide, by decide⟩ (jC.of rfl k_X12_told rfl ?_)
              show jX m_X12_told 99 0 0 0 [(0, .ref 125), (1, .int 0)] [] _ 0 0 _
              refine x_aloadn (x := 125) rfl rfl ?_
              refine x_iloadn (x := 0) rfl rfl ?_
              refine x_ifge (tgt := 9) rfl rfl (br_t (by decide) ?_)
              refine x_iconst (v := 0) rfl ki_0 ?_
              refine x_putI 12 1 rfl f_12_183 rfl (jfin_no TX12 RX12 92 rfl rfl) (congrArg Prod.fst (F.1 125 (12, 92) rfl rfl)) rfl ?_
              refine x_iloadn (x := 0) rfl rfl ?_
              refine x_iret rfl rfl ?_
              show jX m_X12_line 100 0 0 416 [(11, .int 0), (10, .int 0), (9, .int 0), (8, .int 20), (7, .int 0), (6, .int 1), (0, .ref 125), (1, .int a1), (2, .int a2), (3, .int a3), (4, .int a4), (5, .int a5)] [.int 0] _ 0 0 _
              refine x_iret rfl rfl ?_
              exact jqe (show sp_line a1 a2 a3 a4 a5 = 0 by unfold sp_line; (repeat' split) <;> first | rfl | (exfalso; omega)) (hQ _ (by repeat (first | exact O | refine jOl_si rfl ?_ | refine jOl_sl rfl ?_ | refine jOl_ci rfl ?_ | refine jOl_cl rfl ?_ | refine jOl_sr rfl ?_)))
          by_cases c7 : a1.toInt = 3
          ·
            refine x_tableIn (tgt := 44) 3 rfl c7 (by decide) (by decide) rfl rfl ?_
            refine x_iloadn (x := a5) rfl rfl ?_
            refine x_i2l rfl ?_
            refine x_lconst (v := 0) rfl kl_0 ?_
            refine x_ldc2 (v := 100000) rfl z_12_265 ?_
            refine x_inst (N := m_X12_in) (As := [.long (a5.toInt64), .long 0, .long 100000]) (st := []) (d' := 98) (mc := 0) (ms := 0) (host := "") rfl t_X12_in ⟨Or.inl q_12_188, s_X12_in⟩ rfl (by decide) rfl rfl ⟨by decide, by decide⟩ (c_X12_in (jt_l _) (by decide) (by decide) ?_)
            show jX m_X12_isNumber 99 0 0 53 [(0, .int a1), (1, .int a5)] [.int (jp (0 ≤ a5.toInt ∧ a5.toInt ≤ 100000))] _ 0 0 _
            refine x_zret rfl rfl (by first | decide | exact jp_01 _) ?_
            show jX m_X12_line 100 0 0 50 [(0, .ref 125), (1, .int a1), (2, .int a2), (3, .int a3), (4, .int a4), (5, .int a5)] [.int (jp (0 ≤ a5.toInt ∧ a5.toInt ≤ 100000))] _ 0 0 _
            refine x_ifeq (tgt := 57) rfl rfl (jpe ⟨fun c8 => ?_, fun c8 => ?_⟩)
            ·
              refine x_iconst (v := 0) rfl ki_0 ?_
              refine x_istore (ls' := [(6, .int 0), (0, .ref 125), (1, .int a1), (2, .int a2), (3, .int a3), (4, .int a4), (5, .int a5)]) rfl rfl rfl ?_
              refine x_iload (x := 0) rfl rfl ?_
              refine x_ifeq (tgt := 77) rfl rfl (br_t (by decide) ?_)
              refine x_aloadn (x := 125) rfl rfl ?_
              refine x_iconst (v := 0) rfl ki_0 ?_
              refine x_putI 12 8 rfl f_12_201 rfl (jfin_no TX12 RX12 92 rfl rfl) (congrArg Prod.fst (F.1 125 (12, 92) rfl rfl)) rfl ?_
              refine x_aloadn (x := 125) rfl rfl ?_
              refine x_iload (x := 0) rfl rfl ?_
              refine x_ifeq (tgt := 93) rfl rfl (br_t (by decide) ?_)
              refine x_iconst (v := (-1)) rfl ki_m1 ?_
              refine x_inv (N := m_X12_told) (As := [.int (-1)]) (b := 125) (st := []) (d' := 99) (mc := 0) (ms := 0) (host := "") 12 rfl t_X12_told ⟨Or.inl q_12_197, i_X12_told.1, i_X12_told.2⟩ ⟨by decide, rfl⟩ (congrArg Prod.fst (F.1 125 (12, 92) rfl rfl)) rfl (by decide) rfl rfl ⟨by decide, by decide⟩ (jC.of rfl k_X12_told rfl ?_)
              show jX m_X12_told 99 0 0 0 [(0, .ref 125), (1, .int (-1))] [] _ 0 0 _
              refine x_aloadn (x := 125) rfl rfl ?_
              refine x_iloadn (x := (-1)) rfl rfl ?_
              refine x_ifge (tgt := 9) rfl rfl (br_f (by decide) ?_)
              refine x_iloadn (x := (-1)) rfl rfl ?_
              refine x_goto (tgt := 10) rfl rfl ?_
              refine x_putI 12 1 rfl f_12_183 rfl (jfin_no TX12 RX12 92 rfl rfl) (congrArg Prod.fst (F.1 125 (12, 92) rfl rfl)) rfl ?_
              refine x_iloadn (x := (-1)) rfl rfl ?_
              refine x_iret rfl rfl ?_
              show jX m_X12_line 100 0 0 97 [(6, .int 0), (0, .ref 125), (1, .int a1), (2, .int a2), (3, .int a3), (4, .int a4), (5, .int a5)] [.int (-1)] _ 0 0 _
              refine x_iret rfl rfl ?_
              exact jqe (show sp_line a1 a2 a3 a4 a5 = (-1) by unfold sp_line; (repeat' split) <;> first | rfl | (exfalso; omega)) (hQ _ (by repeat (first | exact O | refine jOl_si rfl ?_ | refine jOl_sl rfl ?_ | refine jOl_ci rfl ?_ | refine jOl_cl rfl ?_ | refine jOl_sr rfl ?_)))
            ·
              refine x_iconst (v := 1) rfl ki_1 ?_
              refine x_goto (tgt := 58) rfl rfl ?_
              refine x_istore (ls' := [(6, .int 1), (0, .ref 125), (1, .int a1), (2, .int a2), (3, .int a3), (4, .int a4), (5, .int a5)]) rfl rfl rfl ?_
              refine x_iload (x := 1) rfl rfl ?_
              refine x_ifeq (tgt := 77) rfl rfl (br_f (by decide) ?_)
              refine x_aloadn (x := 125) rfl rfl ?_
              refine x_getR (b := 126) 12 2 rfl f_12_8 rfl (congrArg Prod.fst (F.1 125 (12, 92) rfl rfl)) (F.2.1 16002 126 rfl rfl) ?_
              refine x_iconst (v := 0) rfl ki_0 ?_
              refine y_iald (v := 0) (N := 50660) 0 rfl (F.1 126 (100, 50660) rfl rfl) (jinb_of (by decide)) (by decide) (F.2.2.2.1 126 rfl rfl 0).1 ?_
              refine x_sipush (v := 200) rfl ks_200 ?_
              refine x_icne (tgt := 98) rfl rfl (bn_t (by decide) ?_)
              refine x_aloadn (x := 125) rfl rfl ?_
              refine x_getR (b := 126) 12 2 rfl f_12_8 rfl (congrArg Prod.fst (F.1 125 (12, 92) rfl rfl)) (F.2.1 16002 126 rfl rfl) ?_
              refine x_iconst (v := 0) rfl ki_0 ?_
              refine y_iald (v := 0) (N := 50660) 0 rfl (F.1 126 (100, 50660) rfl rfl) (jinb_of (by decide)) (by decide) (F.2.2.2.1 126 rfl rfl 0).1 ?_
              refine x_istore (ls' := [(7, .int 0), (6, .int 1), (0, .ref 125), (1, .int a1), (2, .int a2), (3, .int a3), (4, .int a4), (5, .int a5)]) rfl rfl rfl ?_
              refine x_aloadn (x := 125) rfl rfl ?_
              refine x_iload (x := 0) rfl rfl ?_
              refine x_inv (N := m_X12_at) (As := [.int 0]) (b := 125) (st := []) (d' := 99) (mc := 0) (ms := 0) (host := "") 12 rfl t_X12_at ⟨Or.inl q_12_254, i_X12_at.1, i_X12_at.2⟩ ⟨by decide, rfl⟩ (congrArg Prod.fst (F.1 125 (12, 92) rfl rfl)) rfl (by decide) rfl rfl ⟨by decide, by decide⟩ (jC.of rfl k_X12_at rfl ?_)
              show jX m_X12_at 99 0 0 0 [(0, .ref 125), (1, .int 0)] [] _ 0 0 _
              refine x_bipush (v := 20) rfl kb_20 ?_
              refine x_bipush (v := 90) rfl kb_90 ?_
              refine x_iloadn (x := 0) rfl rfl ?_
              refine y_imul (v := 0) rfl (by decide) ?_
              refine y_iadd (v := 20) rfl (by decide) ?_
              refine x_iret rfl rfl ?_
              show jX m_X12_line 100 0 0 112 [(7, .int 0), (6, .int 1), (0, .ref 125), (1, .int a1), (2, .int a2), (3, .int a3), (4, .int a4), (5, .int a5)] [.int 20] _ 0 0 _
              refine x_istore (ls' := [(8, .int 20), (7, .int 0), (6, .int 1), (0, .ref 125), (1, .int a1), (2, .int a2), (3, .int a3), (4, .int a4), (5, .int a5)]) rfl rfl rfl ?_
              refine x_iconst (v := 0) rfl ki_0 ?_
              refine x_istore (ls' := [(9, .int 0), (8, .int 20), (7, .int 0), (6, .int 1), (0, .ref 125), (1, .int a1), (2, .int a2), (3, .int a3), (4, .int a4), (5, .int a5)]) rfl rfl rfl ?_
              refine x_iload (x := 0) rfl rfl ?_
              refine x_bipush (v := 90) rfl kb_90 ?_
              refine x_icge (tgt := 141) rfl rfl (br_f (by decide) ?_)
              refine x_aloadn (x := 125) rfl rfl ?_
              refine x_getR (b := 126) 12 2 rfl f_12_8 rfl (congrArg Prod.fst (F.1 125 (12, 92) rfl rfl)) (F.2.1 16002 126 rfl rfl) ?_
              refine x_iload (x := 20) rfl rfl ?_
              refine x_iload (x := 0) rfl rfl ?_
              refine y_iadd (v := 20) rfl (by decide) ?_
              refine x_iconst (v := 0) rfl ki_0 ?_
              refine y_iast (N := 50660) 20 rfl (F.1 126 (100, 50660) rfl rfl) rfl (jinb_of (by decide)) (by decide) ?_
              refine x_iinc (x := 0) (v := 1) (ls' := [(9, .int 1), (8, .int 20), (7, .int 0), (6, .int 1), (0, .ref 125), (1, .int a1), (2, .int a2), (3, .int a3), (4, .int a4), (5, .int a5)]) rfl rfl (by decide) rfl rfl ?_
              refine x_goto (tgt := 117) rfl rfl ?_
              refine x_iload (x := 1) rfl rfl ?_
              refine x_bipush (v := 90) rfl kb_90 ?_
              refine x_icge (tgt := 141) rfl rfl (br_f (by decide) ?_)
              refine x_aloadn (x := 125) rfl rfl ?_
              refine x_getR (b := 126) 12 2 rfl f_12_8 rfl (congrArg Prod.fst (F.1 125 (12, 92) rfl rfl)) (F.2.1 16002 126 rfl rfl) ?_
              refine x_iload (x := 20) rfl rfl ?_
              refine x_iload (x := 1) rfl rfl ?_
              refine y_iadd (v := 21) rfl (by decide) ?_
              refine x_iconst (v := 0) rfl ki_0 ?_
              refine y_iast (N := 50660) 21 rfl (F.1 126 (100, 50660) rfl rfl) rfl (jinb_of (by decide)) (by decide) ?_
              refine x_iinc (x := 1) (v := 2) (ls' := [(9, .int 2), (8, .int 20), (7, .int 0), (6, .int 1), (0, .ref 125), (1, .int a1), (2, .int a2), (3, .int a3), (4, .int a4), (5, .int a5)]) rfl rfl (by decide) rfl rfl ?_
              refine x_goto (tgt := 117) rfl rfl ?_
              refine x_iload (x := 2) rfl rfl ?_
              refine x_bipush (v := 90) rfl kb_90 ?_
              refine x_icge (tgt := 141) rfl rfl (br_f (by decide) ?_)
              refine x_aloadn (x := 125) rfl rfl ?_
              refine x_getR (b := 126) 12 2 rfl f_12_8 rfl (congrArg Prod.fst (F.1 125 (12, 92) rfl rfl)) (F.2.1 16002 126 rfl rfl) ?_
              refine x_iload (x := 20) rfl rfl ?_
              refine x_iload (x := 2) rfl rfl ?_
              refine y_iadd (v := 22) rfl (by decide) ?_
              refine x_iconst (v := 0) rfl ki_0 ?_
              refine y_iast (N := 50660) 22 rfl (F.1 126 (100, 50660) rfl rfl) rfl (jinb_of (by decide)) (by decide) ?_
              refine x_iinc (x := 2) (v := 3) (ls' := [(9, .int 3), (8, .int 20), (7, .int 0), (6, .int 1), (0, .ref 125), (1, .int a1), (2, .int a2), (3, .int a3), (4, .int a4), (5, .int a5)]) rfl rfl (by decide) rfl rfl ?_
              refine x_goto (tgt := 117) rfl rfl ?_
              refine x_iload (x := 3) rfl rfl ?_
              refine x_bipush (v := 90) rfl kb_90 ?_
              refine x_icge (tgt := 141) rfl rfl (br_f (by decide) ?_)
              refine x_aloadn (x := 125) rfl rfl ?_
              refine x_getR (b := 126) 12 2 rfl f_12_8 rfl (congrArg Prod.fst (F.1 125 (12, 92) rfl rfl)) (F.2.1 16002 126 rfl rfl) ?_
              refine x_iload (x := 20) rfl rfl ?_
              refine x_iload (x := 3) rfl rfl ?_
              refine y_iadd (v := 23) rfl (by decide) ?_
              refine x_iconst (v := 0) rfl ki_0 ?_
              refine y_iast (N := 50660) 23 rfl (F.1 126 (100, 50660) rfl rfl) rfl (jinb_of (by decide)) (by decide) ?_
              refine x_iinc (x := 3) (v := 4) (ls' := [(9, .int 4), (8, .int 20), (7, .int 0), (6, .int 1), (0, .ref 125), (1, .int a1), (2, .int a2), (3, .int a3), (4, .int a4), (5, .int a5)]) rfl rfl (by decide) rfl rfl ?_
              refine x_goto (tgt := 117) rfl rfl ?_
              refine x_iload (x := 4) rfl rfl ?_
              refine x_bipush (v := 90) rfl kb_90 ?_
              refine x_icge (tgt := 141) rfl rfl (br_f (by decide) ?_)
              refine x_aloadn (x := 125) rfl rfl ?_
              refine x_getR (b := 126) 12 2 rfl f_12_8 rfl (congrArg Prod.fst (F.1 125 (12, 92) rfl rfl)) (F.2.1 16002 126 rfl rfl) ?_
              refine x_iload (x := 20) rfl rfl ?_
              refine x_iload (x := 4) rfl rfl ?_
              refine y_iadd (v := 24) rfl (by decide) ?_
              refine x_iconst (v := 0) rfl ki_0 ?_
              refine y_iast (N := 50660) 24 rfl (F.1 126 (100, 50660) rfl rfl) rfl (jinb_of (by decide)) (by decide) ?_
              refine x_iinc (x := 4) (v := 5) (ls' := [(9, .int 5), (8, .int 20), (7, .int 0), (6, .int 1), (0, .ref 125), (1, .int a1), (2, .int a2), (3, .int a3), (4, .int a4), (5, .int a5)]) rfl rfl (by decide) rfl rfl ?_
              refine x_goto (tgt := 117) rfl rfl ?_
              refine x_iload (x := 5) rfl rfl ?_
              refine x_bipush (v := 90) rfl kb_90 ?_
              refine x_icge (tgt := 141) rfl rfl (br_f (by decide) ?_)
              refine x_aloadn (x := 125) rfl rfl ?_
              refine x_getR (b := 126) 12 2 rfl f_12_8 rfl (congrArg Prod.fst (F.1 125 (12, 92) rfl rfl)) (F.2.1 16002 126 rfl rfl) ?_
              refine x_iload (x := 20) rfl rfl ?_
              refine x_iload (x := 5) rfl rfl ?_
              refine y_iadd (v := 25) rfl (by decide) ?_
              refine x_iconst (v := 0) rfl ki_0 ?_
              refine y_iast (N := 50660) 25 rfl (F.1 126 (100, 50660) rfl rfl) rfl (jinb_of (by decide)) (by decide) ?_
              refine x_iinc (x := 5) (v := 6) (ls' := [(9, .int 6), (8, .int 20), (7, .int 0), (6, .int 1), (0, .ref 125), (1, .int a1), (2, .int a2), (3, .int a3), (4, .int a4), (5, .int a5)]) rfl rfl (by decide) rfl rfl ?_
              refine x_goto (tgt := 117) rfl rfl ?_
              refine x_iload (x := 6) rfl rfl ?_
              refine x_bipush (v := 90) rfl kb_90 ?_
              refine x_icge (tgt := 141) rfl rfl (br_f (by decide) ?_)
              refine x_aloadn (x := 125) rfl rfl ?_
              refine x_getR (b := 126) 12 2 rfl f_12_8 rfl (congrArg Prod.fst (F.1 125 (12, 92) rfl rfl)) (F.2.1 16002 126 rfl rfl) ?_
              refine x_iload (x := 20) rfl rfl ?_
              refine x_iload (x := 6) rfl rfl ?_
              refine y_iadd (v := 26) rfl (by decide) ?_
              refine x_iconst (v := 0) rfl ki_0 ?_
              refine y_iast (N := 50660) 26 rfl (F.1 126 (100, 50660) rfl rfl) rfl (jinb_of (by decide)) (by decide) ?_
              refine x_iinc (x := 6) (v := 7) (ls' := [(9, .int 7), (8, .int 20), (7, .int 0), (6, .int 1), (0, .ref 125), (1, .int a1), (2, .int a2), (3, .int a3), (4, .int a4), (5, .int a5)]) rfl rfl (by decide) rfl rfl ?_
              refine x_goto (tgt := 117) rfl rfl ?_
              refine x_iload (x := 7) rfl rfl ?_
              refine x_bipush (v := 90) rfl kb_90 ?_
              refine x_icge (tgt := 141) rfl rfl (br_f (by decide) ?_)
              refine x_aloadn (x := 125) rfl rfl ?_
              refine x_getR (b := 126) 12 2 rfl f_12_8 rfl (congrArg Prod.fst (F.1 125 (12, 92) rfl rfl)) (F.2.1 16002 126 rfl rfl) ?_
              refine x_iload (x := 20) rfl rfl ?_
              refine x_iload (x := 7) rfl rfl ?_
              refine y_iadd (v := 27) rfl (by decide) ?_
              refine x_iconst (v := 0) rfl ki_0 ?_
              refine y_iast (N := 50660) 27 rfl (F.1 126 (100, 50660) rfl rfl) rfl (jinb_of (by decide)) (by decide) ?_
              refine x_iinc (x := 7) (v := 8) (ls' := [(9, .int 8), (8, .int 20), (7, .int 0), (6, .int 1), (0, .ref 125), (1, .int a1), (2, .int a2), (3, .int a3), (4, .int a4), (5, .int a5)]) rfl rfl (by decide) rfl rfl ?_
              refine x_goto (tgt := 117) rfl rfl ?_
              refine x_iload (x := 8) rfl rfl ?_
              refine x_bipush (v := 90) rfl kb_90 ?_
              refine x_icge (tgt := 141) rfl rfl (br_f (by decide) ?_)
              refine x_aloadn (x := 125) rfl rfl ?_
              refine x_getR (b := 126) 12 2 rfl f_12_8 rfl (congrArg Prod.fst (F.1 125 (12, 92) rfl rfl)) (F.2.1 16002 126 rfl rfl) ?_
              refine x_iload (x := 20) rfl rfl ?_
              refine x_iload (x := 8) rfl rfl ?_
              refine y_iadd (v := 28) rfl (by decide) ?_
              refine x_iconst (v := 0) rfl ki_0 ?_
              refine y_iast (N := 50660) 28 rfl (F.1 126 (100, 50660) rfl rfl) rfl (jinb_of (by decide)) (by decide) ?_
              refine x_iinc (x := 8) (v := 9) (ls' := [(9, .int 9), (8, .int 20), (7, .int 0), (6, .int 1), (0, .ref 125), (1, .int a1), (2, .int a2), (3, .int a3), (4, .int a4), (5, .int a5)]) rfl rfl (by decide) rfl rfl ?_
              refine x_goto (tgt := 117) rfl rfl ?_
              refine x_iload (x := 9) rfl rfl ?_
              refine x_bipush (v := 90) rfl kb_90 ?_
              refine x_icge (tgt := 141) rfl rfl (br_f (by decide) ?_)
              refine x_aloadn (x := 125) rfl rfl ?_
              refine x_getR (b := 126) 12 2 rfl f_12_8 rfl (congrArg Prod.fst (F.1 125 (12, 92) rfl rfl)) (F.2.1 16002 126 rfl rfl) ?_
              refine x_iload (x := 20) rfl rfl ?_
              refine x_iload (x := 9) rfl rfl ?_
              refine y_iadd (v := 29) rfl (by decide) ?_
              refine x_iconst (v := 0) rfl ki_0 ?_
              refine y_iast (N := 50660) 29 rfl (F.1 126 (100, 50660) rfl rfl) rfl (jinb_of (by decide)) (by decide) ?_
              refine x_iinc (x := 9) (v := 10) (ls' := [(9, .int 10), (8, .int 20), (7, .int 0), (6, .int 1), (0, .ref 125), (1, .int a1), (2, .int a2), (3, .int a3), (4, .int a4), (5, .int a5)]) rfl rfl (by decide) rfl rfl ?_
              refine x_goto (tgt := 117) rfl rfl ?_
              refine x_iload (x := 10) rfl rfl ?_
              refine x_bipush (v := 90) rfl kb_90 ?_
              refine x_icge (tgt := 141) rfl rfl (br_f (by decide) ?_)
              refine x_aloadn (x := 125) rfl rfl ?_
              refine x_getR (b := 126) 12 2 rfl f_12_8 rfl (congrArg Prod.fst (F.1 125 (12, 92) rfl rfl)) (F.2.1 16002 126 rfl rfl) ?_
              refine x_iload (x := 20) rfl rfl ?_
              refine x_iload (x := 10) rfl rfl ?_
              refine y_iadd (v := 30) rfl (by decide) ?_
              refine x_iconst (v := 0) rfl ki_0 ?_
              refine y_iast (N := 50660) 30 rfl (F.1 126 (100, 50660) rfl rfl) rfl (jinb_of (by decide)) (by decide) ?_
              refine x_iinc (x := 10) (v := 11) (ls' := [(9, .int 11), (8, .int 20), (7, .int 0), (6, .int 1), (0, .ref 125), (1, .int a1), (2, .int a2), (3, .int a3), (4, .int a4), (5, .int a5)]) rfl rfl (by decide) rfl rfl ?_
              refine x_goto (tgt := 117) rfl rfl ?_
              refine x_iload (x := 11) rfl rfl ?_
              refine x_bipush (v := 90) rfl kb_90 ?_
              refine x_icge (tgt := 141) rfl rfl (br_f (by decide) ?_)
              refine x_aloadn (x := 125) rfl rfl ?_
              refine x_getR (b := 126) 12 2 rfl f_12_8 rfl (congrArg Prod.fst (F.1 125 (12, 92) rfl rfl)) (F.2.1 16002 126 rfl rfl) ?_
              refine x_iload (x := 20) rfl rfl ?_
              refine x_iload (x := 11) rfl rfl ?_
              refine y_iadd (v := 31) rfl (by decide) ?_
              refine x_iconst (v := 0) rfl ki_0 ?_
              refine y_iast (N := 50660) 31 rfl (F.1 126 (100, 50660) rfl rfl) rfl (jinb_of (by decide)) (by decide) ?_
              refine x_iinc (x := 11) (v := 12) (ls' := [(9, .int 12), (8, .int 20), (7, .int 0), (6, .int 1), (0, .ref 125), (1, .int a1), (2, .int a2), (3, .int a3), (4, .int a4), (5, .int a5)]) rfl rfl (by decide) rfl rfl ?_
              refine x_goto (tgt := 117) rfl rfl ?_
              refine x_iload (x := 12) rfl rfl ?_
              refine x_bipush (v := 90) rfl kb_90 ?_
              refine x_icge (tgt := 141) rfl rfl (br_f (by decide) ?_)
              refine x_aloadn (x := 125) rfl rfl ?_
              refine x_getR (b := 126) 12 2 rfl f_12_8 rfl (congrArg Prod.fst (F.1 125 (12, 92) rfl rfl)) (F.2.1 16002 126 rfl rfl) ?_
              refine x_iload (x := 20) rfl rfl ?_
              refine x_iload (x := 12) rfl rfl ?_
              refine y_iadd (v := 32) rfl (by decide) ?_
              refine x_iconst (v := 0) rfl ki_0 ?_
              refine y_iast (N := 50660) 32 rfl (F.1 126 (100, 50660) rfl rfl) rfl (jinb_of (by decide)) (by decide) ?_
              refine x_iinc (x := 12) (v := 13) (ls' := [(9, .int 13), (8, .int 20), (7, .int 0), (6, .int 1), (0, .ref 125), (1, .int a1), (2, .int a2), (3, .int a3), (4, .int a4), (5, .int a5)]) rfl rfl (by decide) rfl rfl ?_
              refine x_goto (tgt := 117) rfl rfl ?_
              refine x_iload (x := 13) rfl rfl ?_
              refine x_bipush (v := 90) rfl kb_90 ?_
              refine x_icge (tgt := 141) rfl rfl (br_f (by decide) ?_)
              refine x_aloadn (x := 125) rfl rfl ?_
              refine x_getR (b := 126) 12 2 rfl f_12_8 rfl (congrArg Prod.fst (F.1 125 (12, 92) rfl rfl)) (F.2.1 16002 126 rfl rfl) ?_
              refine x_iload (x := 20) rfl rfl ?_
              refine x_iload (x := 13) rfl rfl ?_
              refine y_iadd (v := 33) rfl (by decide) ?_
              refine x_iconst (v := 0) rfl ki_0 ?_
              refine y_iast (N := 50660) 33 rfl (F.1 126 (100, 50660) rfl rfl) rfl (jinb_of (by decide)) (by decide) ?_
              refine x_iinc (x := 13) (v := 14) (ls' := [(9, .int 14), (8, .int 20), (7, .int 0), (6, .int 1), (0, .ref 125), (1, .int a1), (2, .int a2), (3, .int a3), (4, .int a4), (5, .int a5)]) rfl rfl (by decide) rfl rfl ?_
              refine x_goto (tgt := 117) rfl rfl ?_
              refine x_iload (x := 14) rfl rfl ?_
              refine x_bipush (v := 90) rfl kb_90 ?_
              refine x_icge (tgt := 141) rfl rfl (br_f (by decide) ?_)
              refine x_aloadn (x := 125) rfl rfl ?_
              refine x_getR (b := 126) 12 2 rfl f_12_8 rfl (congrArg Prod.fst (F.1 125 (12, 92) rfl rfl)) (F.2.1 16002 126 rfl rfl) ?_
              refine x_iload (x := 20) rfl rfl ?_
              refine x_iload (x := 14) rfl rfl ?_
              refine y_iadd (v := 34) rfl (by decide) ?_
              refine x_iconst (v := 0) rfl ki_0 ?_
              refine y_iast (N := 50660) 34 rfl (F.1 126 (100, 50660) rfl rfl) rfl (jinb_of (by decide)) (by decide) ?_
              refine x_iinc (x := 14) (v := 15) (ls' := [(9, .int 15), (8, .int 20), (7, .int 0), (6, .int 1), (0, .ref 125), (1, .int a1), (2, .int a2), (3, .int a3), (4, .int a4), (5, .int a5)]) rfl rfl (by decide) rfl rfl ?_
              refine x_goto (tgt := 117) rfl rfl ?_
              refine x_iload (x := 15) rfl rfl ?_
              refine x_bipush (v := 90) rfl kb_90 ?_
              refine x_icge (tgt := 141) rfl rfl (br_f (by decide) ?_)
              refine x_aloadn (x := 125) rfl rfl ?_
              refine x_getR (b := 126) 12 2 rfl f_12_8 rfl (congrArg Prod.fst (F.1 125 (12, 92) rfl rfl)) (F.2.1 16002 126 rfl rfl) ?_
              refine x_iload (x := 20) rfl rfl ?_
              refine x_iload (x := 15) rfl rfl ?_
              refine y_iadd (v := 35) rfl (by decide) ?_
              refine x_iconst (v := 0) rfl ki_0 ?_
              refine y_iast (N := 50660) 35 rfl (F.1 126 (100, 50660) rfl rfl) rfl (jinb_of (by decide)) (by decide) ?_
              refine x_iinc (x := 15) (v := 16) (ls' := [(9, .int 16), (8, .int 20), (7, .int 0), (6, .int 1), (0, .ref 125), (1, .int a1), (2, .int a2), (3, .int a3), (4, .int a4), (5, .int a5)]) rfl rfl (by decide) rfl rfl ?_
              refine x_goto (tgt := 117) rfl rfl ?_
              refine x_iload (x := 16) rfl rfl ?_
              refine x_bipush (v := 90) rfl kb_90 ?_
              refine x_icge (tgt := 141) rfl rfl (br_f (by decide) ?_)
              refine x_aloadn (x := 125) rfl rfl ?_
              refine x_getR (b := 126) 12 2 rfl f_12_8 rfl (congrArg Prod.fst (F.1 125 (12, 92) rfl rfl)) (F.2.1 16002 126 rfl rfl) ?_
              refine x_iload (x := 20) rfl rfl ?_
              refine x_iload (x := 16) rfl rfl ?_
              refine y_iadd (v := 36) rfl (by decide) ?_
              refine x_iconst (v := 0) rfl ki_0 ?_
              refine y_iast (N := 50660) 36 rfl (F.1 126 (100, 50660) rfl rfl) rfl (jinb_of (by decide)) (by decide) ?_
              refine x_iinc (x := 16) (v := 17) (ls' := [(9, .int 17), (8, .int 20), (7, .int 0), (6, .int 1), (0, .ref 125), (1, .int a1), (2, .int a2), (3, .int a3), (4, .int a4), (5, .int a5)]) rfl rfl (by decide) rfl rfl ?_
              refine x_goto (tgt := 117) rfl rfl ?_
              refine x_iload (x := 17) rfl rfl ?_
              refine x_bipush (v := 90) rfl kb_90 ?_
              refine x_icge (tgt := 141) rfl rfl (br_f (by decide) ?_)
              refine x_aloadn (x := 125) rfl rfl ?_
              refine x_getR (b := 126) 12 2 rfl f_12_8 rfl (congrArg Prod.fst (F.1 125 (12, 92) rfl rfl)) (F.2.1 16002 126 rfl rfl) ?_
              refine x_iload (x := 20) rfl rfl ?_
              refine x_iload (x := 17) rfl rfl ?_
              refine y_iadd (v := 37) rfl (by decide) ?_
              refine x_iconst (v := 0) rfl ki_0 ?_
              refine y_iast (N := 50660) 37 rfl (F.1 126 (100, 50660) rfl rfl) rfl (jinb_of (by decide)) (by decide) ?_
              refine x_iinc (x := 17) (v := 18) (ls' := [(9, .int 18), (8, .int 20), (7, .int 0), (6, .int 1), (0, .ref 125), (1, .int a1), (2, .int a2), (3, .int a3), (4, .int a4), (5, .int a5)]) rfl rfl (by decide) rfl rfl ?_
              refine x_goto (tgt := 117) rfl rfl ?_
              refine x_iload (x := 18) rfl rfl ?_
              refine x_bipush (v := 90) rfl kb_90 ?_
              refine x_icge (tgt := 141) rfl rfl (br_f (by decide) ?_)
              refine x_aloadn (x := 125) rfl rfl ?_
              refine x_getR (b := 126) 12 2 rfl f_12_8 rfl (congrArg Prod.fst (F.1 125 (12, 92) rfl rfl)) (F.2.1 16002 126 rfl rfl) ?_
              refine x_iload (x := 20) rfl rfl ?_
              refine x_iload (x := 18) rfl rfl ?_
              refine y_iadd (v := 38) rfl (by decide) ?_
              refine x_iconst (v := 0) rfl ki_0 ?_
              refine y_iast (N := 50660) 38 rfl (F.1 126 (100, 50660) rfl rfl) rfl (jinb_of (by decide)) (by decide) ?_
              refine x_iinc (x := 18) (v := 19) (ls' := [(9, .int 19), (8, .int 20), (7, .int 0), (6, .int 1), (0, .ref 125), (1, .int a1), (2, .int a2), (3, .int a3), (4, .int a4), (5, .int a5)]) rfl rfl (by decide) rfl rfl ?_
              refine x_goto (tgt := 117) rfl rfl ?_
              refine x_iload (x := 19) rfl rfl ?_
              refine x_bipush (v := 90) rfl kb_90 ?_
              refine x_icge (tgt := 141) rfl rfl (br_f (by decide) ?_)
              refine x_aloadn (x := 125) rfl rfl ?_
              refine x_getR (b := 126) 12 2 rfl f_12_8 rfl (congrArg Prod.fst (F.1 125 (12, 92) rfl rfl)) (F.2.1 16002 126 rfl rfl) ?_
              refine x_iload (x := 20) rfl rfl ?_
              refine x_iload (x := 19) rfl rfl ?_
              refine y_iadd (v := 39) rfl (by decide) ?_
              refine x_iconst (v := 0) rfl ki_0 ?_
              refine y_iast (N := 50660) 39 rfl (F.1 126 (100, 50660) rfl rfl) rfl (jinb_of (by decide)) (by decide) ?_
              refine x_iinc (x := 19) (v := 20) (ls' := [(9, .int 20), (8, .int 20), (7, .int 0), (6, .int 1), (0, .ref 125), (1, .int a1), (2, .int a2), (3, .int a3), (4, .int a4), (5, .int a5)]) rfl rfl (by decide) rfl rfl ?_
              refine x_goto (tgt := 117) rfl rfl ?_
              refine x_iload (x := 20) rfl rfl ?_
              refine x_bipush (v := 90) rfl kb_90 ?_
              refine x_icge (tgt := 141) rfl rfl (br_f (by decide) ?_)
              refine x_aloadn (x := 125) rfl rfl ?_
              refine x_getR (b := 126) 12 2 rfl f_12_8 rfl (congrArg Prod.fst (F.1 125 (12, 92) rfl rfl)) (F.2.1 16002 126 rfl rfl) ?_
              refine x_iload (x := 20) rfl rfl ?_
              refine x_iload (x := 20) rfl rfl ?_
              refine y_iadd (v := 40) rfl (by decide) ?_
              refine x_iconst (v := 0) rfl ki_0 ?_
              refine y_iast (N := 50660) 40 rfl (F.1 126 (100, 50660) rfl rfl) rfl (jinb_of (by decide)) (by decide) ?_
              refine x_iinc (x := 20) (v := 21) (ls' := [(9, .int 21), (8, .int 20), (7, .int 0), (6, .int 1), (0, .ref 125), (1, .int a1), (2, .int a2), (3, .int a3), (4, .int a4), (5, .int a5)]) rfl rfl (by decide) rfl rfl ?_
              refine x_goto (tgt := 117) rfl rfl ?_
              refine x_iload (x := 21) rfl rfl ?_
              refine x_bipush (v := 90) rfl kb_90 ?_
              refine x_icge (tgt := 141) rfl rfl (br_f (by decide) ?_)
              refine x_aloadn (x := 125) rfl rfl ?_
              refine x_getR (b := 126) 12 2 rfl f_12_8 rfl (congrArg Prod.fst (F.1 125 (12, 92) rfl rfl)) (F.2.1 16002 126 rfl rfl) ?_
              refine x_iload (x := 20) rfl rfl ?_
              refine x_iload (x := 21) rfl rfl ?_
              refine y_iadd (v := 41) rfl (by decide) ?_
              refine x_iconst (v := 0) rfl ki_0 ?_
              refine y_iast (N := 50660) 41 rfl (F.1 126 (100, 50660) rfl rfl) rfl (jinb_of (by decide)) (by decide) ?_
              refine x_iinc (x := 21) (v := 22) (ls' := [(9, .int 22), (8, .int 20), (7, .int 0), (6, .int 1), (0, .ref 125), (1, .int a1), (2, .int a2), (3, .int a3), (4, .int a4), (5, .int a5)]) rfl rfl (by decide) rfl rfl ?_
              refine x_goto (tgt := 117) rfl rfl ?_
              refine x_iload (x := 22) rfl rfl ?_
              refine x_bipush (v := 90) rfl kb_90 ?_
              refine x_icge (tgt := 141) rfl rfl (br_f (by decide) ?_)
              refine x_aloadn (x := 125) rfl rfl ?_
              refine x_getR (b := 126) 12 2 rfl f_12_8 rfl (congrArg Prod.fst (F.1 125 (12, 92) rfl rfl)) (F.2.1 16002 126 rfl rfl) ?_
              refine x_iload (x := 20) rfl rfl ?_
              refine x_iload (x := 22) rfl rfl ?_
              refine y_iadd (v := 42) rfl (by decide) ?_
              refine x_iconst (v := 0) rfl ki_0 ?_
              refine y_iast (N := 50660) 42 rfl (F.1 126 (100, 50660) rfl rfl) rfl (jinb_of (by decide)) (by decide) ?_
              refine x_iinc (x := 22) (v := 23) (ls' := [(9, .int 23), (8, .int 20), (7, .int 0), (6, .int 1), (0, .ref 125), (1, .int a1), (2, .int a2), (3, .int a3), (4, .int a4), (5, .int a5)]) rfl rfl (by decide) rfl rfl ?_
              refine x_goto (tgt := 117) rfl rfl ?_
              refine x_iload (x := 23) rfl rfl ?_
              refine x_bipush (v := 90) rfl kb_90 ?_
              refine x_icge (tgt := 141) rfl rfl (br_f (by decide) ?_)
              refine x_aloadn (x := 125) rfl rfl ?_
              refine x_getR (b := 126) 12 2 rfl f_12_8 rfl (congrArg Prod.fst (F.1 125 (12, 92) rfl rfl)) (F.2.1 16002 126 rfl rfl) ?_
              refine x_iload (x := 20) rfl rfl ?_
              refine x_iload (x := 23) rfl rfl ?_
              refine y_iadd (v := 43) rfl (by decide) ?_
              refine x_iconst (v := 0) rfl ki_0 ?_
              refine y_iast (N := 50660) 43 rfl (F.1 126 (100, 50660) rfl rfl) rfl (jinb_of (by decide)) (by decide) ?_
              refine x_iinc (x := 23) (v := 24) (ls' := [(9, .int 24), (8, .int 20), (7, .int 0), (6, .int 1), (0, .ref 125), (1, .int a1), (2, .int a2), (3, .int a3), (4, .int a4), (5, .int a5)]) rfl rfl (by decide) rfl rfl ?_
              refine x_goto (tgt := 117) rfl rfl ?_
              refine x_iload (x := 24) rfl rfl ?_
              refine x_bipush (v := 90) rfl kb_90 ?_
              refine x_icge (tgt := 141) rfl rfl (br_f (by decide) ?_)
              refine x_aloadn (x := 125) rfl rfl ?_
              refine x_getR (b := 126) 12 2 rfl f_12_8 rfl (congrArg Prod.fst (F.1 125 (12, 92) rfl rfl)) (F.2.1 16002 126 rfl rfl) ?_
              refine x_iload (x := 20) rfl rfl ?_
              refine x_iload (x := 24) rfl rfl ?_
              refine y_iadd (v := 44) rfl (by decide) ?_
              refine x_iconst (v := 0) rfl ki_0 ?_
              refine y_iast (N := 50660) 44 rfl (F.1 126 (100, 50660) rfl rfl) rfl (jinb_of (by decide)) (by decide) ?_
              refine x_iinc (x := 24) (v := 25) (ls' := [(9, .int 25), (8, .int 20), (7, .int 0), (6, .int 1), (0, .ref 125), (1, .int a1), (2, .int a2), (3, .int a3), (4, .int a4), (5, .int a5)]) rfl rfl (by decide) rfl rfl ?_
              refine x_goto (tgt := 117) rfl rfl ?_
              refine x_iload (x := 25) rfl rfl ?_
              refine x_bipush (v := 90) rfl kb_90 ?_
              refine x_icge (tgt := 141) rfl rfl (br_f (by decide) ?_)
              refine x_aloadn (x := 125) rfl rfl ?_
              refine x_getR (b := 126) 12 2 rfl f_12_8 rfl (congrArg Prod.fst (F.1 125 (12, 92) rfl rfl)) (F.2.1 16002 126 rfl rfl) ?_
              refine x_iload (x := 20) rfl rfl ?_
              refine x_iload (x := 25) rfl rfl ?_
              refine y_iadd (v := 45) rfl (by decide) ?_
              refine x_iconst (v := 0) rfl ki_0 ?_
              refine y_iast (N := 50660) 45 rfl (F.1 126 (100, 50660) rfl rfl) rfl (jinb_of (by decide)) (by decide) ?_
              refine x_iinc (x := 25) (v := 26) (ls' := [(9, .int 26), (8, .int 20), (7, .int 0), (6, .int 1), (0, .ref 125), (1, .int a1), (2, .int a2), (3, .int a3), (4, .int a4), (5, .int a5)]) rfl rfl (by decide) rfl rfl ?_
              refine x_goto (tgt := 117) rfl rfl ?_
              refine x_iload (x := 26) rfl rfl ?_
              refine x_bipush (v := 90) rfl kb_90 ?_
              refine x_icge (tgt := 141) rfl rfl (br_f (by decide) ?_)
              refine x_aloadn (x := 125) rfl rfl ?_
              refine x_getR (b := 126) 12 2 rfl f_12_8 rfl (congrArg Prod.fst (F.1 125 (12, 92) rfl rfl)) (F.2.1 16002 126 rfl rfl) ?_
              refine x_iload (x := 20) rfl rfl ?_
              refine x_iload (x := 26) rfl rfl ?_
              refine y_iadd (v := 46) rfl (by decide) ?_
              refine x_iconst (v := 0) rfl ki_0 ?_
              refine y_iast (N := 50660) 46 rfl (F.1 126 (100, 50660) rfl rfl) rfl (jinb_of (by decide)) (by decide) ?_
              refine x_iinc (x := 26) (v := 27) (ls' := [(9, .int 27), (8, .int 20), (7, .int 0), (6, .int 1), (0, .ref 125), (1, .int a1), (2, .int a2), (3, .int a3), (4, .int a4), (5, .int a5)]) rfl rfl (by decide) rfl rfl ?_
              refine x_goto (tgt := 117) rfl rfl ?_
              refine x_iload (x := 27) rfl rfl ?_
              refine x_bipush (v := 90) rfl kb_90 ?_
              refine x_icge (tgt := 141) rfl rfl (br_f (by decide) ?_)
              refine x_aloadn (x := 125) rfl rfl ?_
              refine x_getR (b := 126) 12 2 rfl f_12_8 rfl (congrArg Prod.fst (F.1 125 (12, 92) rfl rfl)) (F.2.1 16002 126 rfl rfl) ?_
              refine x_iload (x := 20) rfl rfl ?_
              refine x_iload (x := 27) rfl rfl ?_
              refine y_iadd (v := 47) rfl (by decide) ?_
              refine x_iconst (v := 0) rfl ki_0 ?_
              refine y_iast (N := 50660) 47 rfl (F.1 126 (100, 50660) rfl rfl) rfl (jinb_of (by decide)) (by decide) ?_
              refine x_iinc (x := 27) (v := 28) (ls' := [(9, .int 28), (8, .int 20), (7, .int 0), (6, .int 1), (0, .ref 125), (1, .int a1), (2, .int a2), (3, .int a3), (4, .int a4), (5, .int a5)]) rfl rfl (by decide) rfl rfl ?_
              refine x_goto (tgt := 117) rfl rfl ?_
              refine x_iload (x := 28) rfl rfl ?_
              refine x_bipush (v := 90) rfl kb_90 ?_
              refine x_icge (tgt := 141) rfl rfl (br_f (by decide) ?_)
              refine x_aloadn (x := 125) rfl rfl ?_
              refine x_getR (b := 126) 12 2 rfl f_12_8 rfl (congrArg Prod.fst (F.1 125 (12, 92) rfl rfl)) (F.2.1 16002 126 rfl rfl) ?_
              refine x_iload (x := 20) rfl rfl ?_
              refine x_iload (x := 28) rfl rfl ?_
              refine y_iadd (v := 48) rfl (by decide) ?_
              refine x_iconst (v := 0) rfl ki_0 ?_
              refine y_iast (N := 50660) 48 rfl (F.1 126 (100, 50660) rfl rfl) rfl (jinb_of (by decide)) (by decide) ?_
              refine x_iinc (x := 28) (v := 29) (ls' := [(9, .int 29), (8, .int 20), (7, .int 0), (6, .int 1), (0, .ref 125), (1, .int a1), (2, .int a2), (3, .int a3), (4, .int a4), (5, .int a5)]) rfl rfl (by decide) rfl rfl ?_
              refine x_goto (tgt := 117) rfl rfl ?_
              refine x_iload (x := 29) rfl rfl ?_
              refine x_bipush (v := 90) rfl kb_90 ?_
              refine x_icge (tgt := 141) rfl rfl (br_f (by decide) ?_)
              refine x_aloadn (x := 125) rfl rfl ?_
              refine x_getR (b := 126) 12 2 rfl f_12_8 rfl (congrArg Prod.fst (F.1 125 (12, 92) rfl rfl)) (F.2.1 16002 126 rfl rfl) ?_
              refine x_iload (x := 20) rfl rfl ?_
              refine x_iload (x := 29) rfl rfl ?_
              refine y_iadd (v := 49) rfl (by decide) ?_
              refine x_iconst (v := 0) rfl ki_0 ?_
              refine y_iast (N := 50660) 49 rfl (F.1 126 (100, 50660) rfl rfl) rfl (jinb_of (by decide)) (by decide) ?_
              refine x_iinc (x := 29) (v := 30) (ls' := [(9, .int 30), (8, .int 20), (7, .int 0), (6, .int 1), (0, .ref 125), (1, .int a1), (2, .int a2), (3, .int a3), (4, .int a4), (5, .int a5)]) rfl rfl (by decide) rfl rfl ?_
              refine x_goto (tgt := 117) rfl rfl ?_
              refine x_iload (x := 30) rfl rfl ?_
              refine x_bipush (v := 90) rfl kb_90 ?_
              refine x_icge (tgt := 141) rfl rfl (br_f (by decide) ?_)
              refine x_aloadn (x := 125) rfl rfl ?_
              refine x_getR (b := 126) 12 2 rfl f_12_8 rfl (congrArg Prod.fst (F.1 125 (12, 92) rfl rfl)) (F.2.1 16002 126 rfl rfl) ?_
              refine x_iload (x := 20) rfl rfl ?_
              refine x_iload (x := 30) rfl rfl ?_
              refine y_iadd (v := 50) rfl (by decide) ?_
              refine x_iconst (v := 0) rfl ki_0 ?_
              refine y_iast (N := 50660) 50 rfl (F.1 126 (100, 50660) rfl rfl) rfl (jinb_of (by decide)) (by decide) ?_
              refine x_iinc (x := 30) (v := 31) (ls' := [(9, .int 31), (8, .int 20), (7, .int 0), (6, .int 1), (0, .ref 125), (1, .int a1), (2, .int a2), (3, .int a3), (4, .int a4), (5, .int a5)]) rfl rfl (by decide) rfl rfl ?_
              refine x_goto (tgt := 117) rfl rfl ?_
              refine x_iload (x := 31) rfl rfl ?_
              refine x_bipush (v := 90) rfl kb_90 ?_
              refine x_icge (tgt := 141) rfl rfl (br_f (by decide) ?_)
              refine x_aloadn (x := 125) rfl rfl ?_
              refine x_getR (b := 126) 12 2 rfl f_12_8 rfl (congrArg Prod.fst (F.1 125 (12, 92) rfl rfl)) (F.2.1 16002 126 rfl rfl) ?_
              refine x_iload (x := 20) rfl rfl ?_
              refine x_iload (x := 31) rfl rfl ?_
              refine y_iadd (v := 51) rfl (by decide) ?_
              refine x_iconst (v := 0) rfl ki_0 ?_
              refine y_iast (N := 50660) 51 rfl (F.1 126 (100, 50660) rfl rfl) rfl (jinb_of (by decide)) (by decide) ?_
              refine x_iinc (x := 31) (v := 32) (ls' := [(9, .int 32), (8, .int 20), (7, .int 0), (6, .int 1), (0, .ref 125), (1, .int a1), (2, .int a2), (3, .int a3), (4, .int a4), (5, .int a5)]) rfl rfl (by decide) rfl rfl ?_
              refine x_goto (tgt := 117) rfl rfl ?_
              refine x_iload (x := 32) rfl rfl ?_
              refine x_bipush (v := 90) rfl kb_90 ?_
              refine x_icge (tgt := 141) rfl rfl (br_f (by decide) ?_)
              refine x_aloadn (x := 125) rfl rfl ?_
              refine x_getR (b := 126) 12 2 rfl f_12_8 rfl (congrArg Prod.fst (F.1 125 (12, 92) rfl rfl)) (F.2.1 16002 126 rfl rfl) ?_
              refine x_iload (x := 20) rfl rfl ?_
              refine x_iload (x := 32) rfl rfl ?_
              refine y_iadd (v := 52) rfl (by decide) ?_
              refine x_iconst (v := 0) rfl ki_0 ?_
              refine y_iast (N := 50660) 52 rfl (F.1 126 (100, 50660) rfl rfl) rfl (jinb_of (by decide)) (by decide) ?_
              refine x_iinc (x := 32) (v := 33) (ls' := [(9, .int 33), (8, .int 20), (7, .int 0), (6, .int 1), (0, .ref 125), (1, .int a1), (2, .int a2), (3, .int a3), (4, .int a4), (5, .int a5)]) rfl rfl (by decide) rfl rfl ?_
              refine x_goto (tgt := 117) rfl rfl ?_
              refine x_iload (x := 33) rfl rfl ?_
              refine x_bipush (v := 90) rfl kb_90 ?_
              refine x_icge (tgt := 141) rfl rfl (br_f (by decide) ?_)
              refine x_aloadn (x := 125) rfl rfl ?_
              refine x_getR (b := 126) 12 2 rfl f_12_8 rfl (congrArg Prod.fst (F.1 125 (12, 92) rfl rfl)) (F.2.1 16002 126 rfl rfl) ?_
              refine x_iload (x := 20) rfl rfl ?_
              refine x_iload (x := 33) rfl rfl ?_
              refine y_iadd (v := 53) rfl (by decide) ?_
              refine x_iconst (v := 0) rfl ki_0 ?_
              refine y_iast (N := 50660) 53 rfl (F.1 126 (100, 50660) rfl rfl) rfl (jinb_of (by decide)) (by decide) ?_
              refine x_iinc (x := 33) (v := 34) (ls' := [(9, .int 34), (8, .int 20), (7, .int 0), (6, .int 1), (0, .ref 125), (1, .int a1), (2, .int a2), (3, .int a3), (4, .int a4), (5, .int a5)]) rfl rfl (by decide) rfl rfl ?_
              refine x_goto (tgt := 117) rfl rfl ?_
              refine x_iload (x := 34) rfl rfl ?_
              refine x_bipush (v := 90) rfl kb_90 ?_
              refine x_icge (tgt := 141) rfl rfl (br_f (by decide) ?_)
              refine x_aloadn (x := 125) rfl rfl ?_
              refine x_getR (b := 126) 12 2 rfl f_12_8 rfl (congrArg Prod.fst (F.1 125 (12, 92) rfl rfl)) (F.2.1 16002 126 rfl rfl) ?_
              refine x_iload (x := 20) rfl rfl ?_
              refine x_iload (x := 34) rfl rfl ?_
              refine y_iadd (v := 54) rfl (by decide) ?_
              refine x_iconst (v := 0) rfl ki_0 ?_
              refine y_iast (N := 50660) 54 rfl (F.1 126 (100, 50660) rfl rfl) rfl (jinb_of (by decide)) (by decide) ?_
              refine x_iinc (x := 34) (v := 35) (ls' := [(9, .int 35), (8, .int 20), (7, .int 0), (6, .int 1), (0, .ref 125), (1, .int a1), (2, .int a2), (3, .int a3), (4, .int a4), (5, .int a5)]) rfl rfl (by decide) rfl rfl ?_
              refine x_goto (tgt := 117) rfl rfl ?_
              refine x_iload (x := 35) rfl rfl ?_
              refine x_bipush (v := 90) rfl kb_90 ?_
              refine x_icge (tgt := 141) rfl rfl (br_f (by decide) ?_)
              refine x_aloadn (x := 125) rfl rfl ?_
              refine x_getR (b := 126) 12 2 rfl f_12_8 rfl (congrArg Prod.fst (F.1 125 (12, 92) rfl rfl)) (F.2.1 16002 126 rfl rfl) ?_
              refine x_iload (x := 20) rfl rfl ?_
              refine x_iload (x := 35) rfl rfl ?_
              refine y_iadd (v := 55) rfl (by decide) ?_
              refine x_iconst (v := 0) rfl ki_0 ?_
              refine y_iast (N := 50660) 55 rfl (F.1 126 (100, 50660) rfl rfl) rfl (jinb_of (by decide)) (by decide) ?_
              refine x_iinc (x := 35) (v := 36) (ls' := [(9, .int 36), (8, .int 20), (7, .int 0), (6, .int 1), (0, .ref 125), (1, .int a1), (2, .int a2), (3, .int a3), (4, .int a4), (5, .int a5)]) rfl rfl (by decide) rfl rfl ?_
              refine x_goto (tgt := 117) rfl rfl ?_
              refine x_iload (x := 36) rfl rfl ?_
              refine x_bipush (v := 90) rfl kb_90 ?_
              refine x_icge (tgt := 141) rfl rfl (br_f (by decide) ?_)
              refine x_aloadn (x := 125) rfl rfl ?_
              refine x_getR (b := 126) 12 2 rfl f_12_8 rfl (congrArg Prod.fst (F.1 125 (12, 92) rfl rfl)) (F.2.1 16002 126 rfl rfl) ?_
              refine x_iload (x := 20) rfl rfl ?_
              refine x_iload (x := 36) rfl rfl ?_
              refine y_iadd (v := 56) rfl (by decide) ?_
              refine x_iconst (v := 0) rfl ki_0 ?_
              refine y_iast (N := 50660) 56 rfl (F.1 126 (100, 50660) rfl rfl) rfl (jinb_of (by decide)) (by decide) ?_
              refine x_iinc (x := 36) (v := 37) (ls' := [(9, .int 37), (8, .int 20), (7, .int 0), (6, .int 1), (0, .ref 125), (1, .int a1), (2, .int a2), (3, .int a3), (4, .int a4), (5, .int a5)]) rfl rfl (by decide) rfl rfl ?_
              refine x_goto (tgt := 117) rfl rfl ?_
              refine x_iload (x := 37) rfl rfl ?_
              refine x_bipush (v := 90) rfl kb_90 ?_
              refine x_icge (tgt := 141) rfl rfl (br_f (by decide) ?_)
              refine x_aloadn (x := 125) rfl rfl ?_
              refine x_getR (b := 126) 12 2 rfl f_12_8 rfl (congrArg Prod.fst (F.1 125 (12, 92) rfl rfl)) (F.2.1 16002 126 rfl rfl) ?_
              refine x_iload (x := 20) rfl rfl ?_
              refine x_iload (x := 37) rfl rfl ?_
              refine y_iadd (v := 57) rfl (by decide) ?_
              refine x_iconst (v := 0) rfl ki_0 ?_
              refine y_iast (N := 50660) 57 rfl (F.1 126 (100, 50660) rfl rfl) rfl (jinb_of (by decide)) (by decide) ?_
              refine x_iinc (x := 37) (v := 38) (ls' := [(9, .int 38), (8, .int 20), (7, .int 0), (6, .int 1), (0, .ref 125), (1, .int a1), (2, .int a2), (3, .int a3), (4, .int a4), (5, .int a5)]) rfl rfl (by decide) rfl rfl ?_
              refine x_goto (tgt := 117) rfl rfl ?_
              refine x_iload (x := 38) rfl rfl ?_
              refine x_bipush (v := 90) rfl kb_90 ?_
              refine x_icge (tgt := 141) rfl rfl (br_f (by decide) ?_)
              refine x_aloadn (x := 125) rfl rfl ?_
              refine x_getR (b := 126) 12 2 rfl f_12_8 rfl (congrArg Prod.fst (F.1 125 (12, 92) rfl rfl)) (F.2.1 16002 126 rfl rfl) ?_
              refine x_iload (x := 20) rfl rfl ?_
              refine x_iload (x := 38) rfl rfl ?_
              refine y_iadd (v := 58) rfl (by decide) ?_
              refine x_iconst (v := 0) rfl ki_0 ?_
              refine y_iast (N := 50660) 58 rfl (F.1 126 (100, 50660) rfl rfl) rfl (jinb_of (by decide)) (by decide) ?_
              refine x_iinc (x := 38) (v := 39) (ls' := [(9, .int 39), (8, .int 20), (7, .int 0), (6, .int 1), (0, .ref 125), (1, .int a1), (2, .int a2), (3, .int a3), (4, .int a4), (5, .int a5)]) rfl rfl (by decide) rfl rfl ?_
              refine x_goto (tgt := 117) rfl rfl ?_
              refine x_iload (x := 39) rfl rfl ?_
              refine x_bipush (v := 90) rfl kb_90 ?_
              refine x_icge (tgt := 141) rfl rfl (br_f (by decide) ?_)
              refine x_aloadn (x := 125) rfl rfl ?_
              refine x_getR (b := 126) 12 2 rfl f_12_8 rfl (congrArg Prod.fst (F.1 125 (12, 92) rfl rfl)) (F.2.1 16002 126 rfl rfl) ?_
              refine x_iload (x := 20) rfl rfl ?_
              refine x_iload (x := 39) rfl rfl ?_
              refine y_iadd (v := 59) rfl (by decide) ?_
              refine x_iconst (v := 0) rfl ki_0 ?_
              refine y_iast (N := 50660) 59 rfl (F.1 126 (100, 50660) rfl rfl) rfl (jinb_of (by decide)) (by decide) ?_
              refine x_iinc (x := 39) (v := 40) (ls' := [(9, .int 40), (8, .int 20), (7, .int 0), (6, .int 1), (0, .ref 125), (1, .int a1), (2, .int a2), (3, .int a3), (4, .int a4), (5, .int a5)]) rfl rfl (by decide) rfl rfl ?_
              refine x_goto (tgt := 117) rfl rfl ?_
              refine x_iload (x := 40) rfl rfl ?_
              refine x_bipush (v := 90) rfl kb_90 ?_
              refine x_icge (tgt := 141) rfl rfl (br_f (by decide) ?_)
              refine x_aloadn (x := 125) rfl rfl ?_
              refine x_getR (b := 126) 12 2 rfl f_12_8 rfl (congrArg Prod.fst (F.1 125 (12, 92) rfl rfl)) (F.2.1 16002 126 rfl rfl) ?_
              refine x_iload (x := 20) rfl rfl ?_
              refine x_iload (x := 40) rfl rfl ?_
              refine y_iadd (v := 60) rfl (by decide) ?_
              refine x_iconst (v := 0) rfl ki_0 ?_
              refine y_iast (N := 50660) 60 rfl (F.1 126 (100, 50660) rfl rfl) rfl (jinb_of (by decide)) (by decide) ?_
              refine x_iinc (x := 40) (v := 41) (ls' := [(9, .int 41), (8, .int 20), (7, .int 0), (6, .int 1), (0, .ref 125), (1, .int a1), (2, .int a2), (3, .int a3), (4, .int a4), (5, .int a5)]) rfl rfl (by decide) rfl rfl ?_
              refine x_goto (tgt := 117) rfl rfl ?_
              refine x_iload (x := 41) rfl rfl ?_
              refine x_bipush (v := 90) rfl kb_90 ?_
              refine x_icge (tgt := 141) rfl rfl (br_f (by decide) ?_)
              refine x_aloadn (x := 125) rfl rfl ?_
              refine x_getR (b := 126) 12 2 rfl f_12_8 rfl (congrArg Prod.fst (F.1 125 (12, 92) rfl rfl)) (F.2.1 16002 126 rfl rfl) ?_
              refine x_iload (x := 20) rfl rfl ?_
              refine x_iload (x := 41) rfl rfl ?_
              refine y_iadd (v := 61) rfl (by decide) ?_
              refine x_iconst (v := 0) rfl ki_0 ?_
              refine y_iast (N := 50660) 61 rfl (F.1 126 (100, 50660) rfl rfl) rfl (jinb_of (by decide)) (by decide) ?_
              refine x_iinc (x := 41) (v := 42) (ls' := [(9, .int 42), (8, .int 20), (7, .int 0), (6, .int 1), (0, .ref 125), (1, .int a1), (2, .int a2), (3, .int a3), (4, .int a4), (5, .int a5)]) rfl rfl (by decide) rfl rfl ?_
              refine x_goto (tgt := 117) rfl rfl ?_
              refine x_iload (x := 42) rfl rfl ?_
              refine x_bipush (v := 90) rfl kb_90 ?_
              refine x_icge (tgt := 141) rfl rfl (br_f (by decide) ?_)
              refine x_aloadn (x := 125) rfl rfl ?_
              refine x_getR (b := 126) 12 2 rfl f_12_8 rfl (congrArg Prod.fst (F.1 125 (12, 92) rfl rfl)) (F.2.1 16002 126 rfl rfl) ?_
              refine x_iload (x := 20) rfl rfl ?_
              refine x_iload (x := 42) rfl rfl ?_
              refine y_iadd (v := 62) rfl (by decide) ?_
              refine x_iconst (v := 0) rfl ki_0 ?_
              refine y_iast (N := 50660) 62 rfl (F.1 126 (100, 50660) rfl rfl) rfl (jinb_of (by decide)) (by decide) ?_
              refine x_iinc (x := 42) (v := 43) (ls' := [(9, .int 43), (8, .int 20), (7, .int 0), (6, .int 1), (0, .ref 125), (1, .int a1), (2, .int a2), (3, .int a3), (4, .int a4), (5, .int a5)]) rfl rfl (by decide) rfl rfl ?_
              refine x_goto (tgt := 117) rfl rfl ?_
              refine x_iload (x := 43) rfl rfl ?_
              refine x_bipush (v := 90) rfl kb_90 ?_
              refine x_icge (tgt := 141) rfl rfl (br_f (by decide) ?_)
              refine x_aloadn (x := 125) rfl rfl ?_
              refine x_getR (b := 126) 12 2 rfl f_12_8 rfl (congrArg Prod.fst (F.1 125 (12, 92) rfl rfl)) (F.2.1 16002 126 rfl rfl) ?_
              refine x_iload (x := 20) rfl rfl ?_
              refine x_iload (x := 43) rfl rfl ?_
              refine y_iadd (v := 63) rfl (by decide) ?_
              refine x_iconst (v := 0) rfl ki_0 ?_
              refine y_iast (N := 50660) 63 rfl (F.1 126 (100, 50660) rfl rfl) rfl (jinb_of (by decide)) (by decide) ?_
              refine x_iinc (x := 43) (v := 44) (ls' := [(9, .int 44), (8, .int 20), (7, .int 0), (6, .int 1), (0, .ref 125), (1, .int a1), (2, .int a2), (3, .int a3), (4, .int a4), (5, .int a5)]) rfl rfl (by decide) rfl rfl ?_
              refine x_goto (tgt := 117) rfl rfl ?_
              refine x_iload (x := 44) rfl rfl ?_
              refine x_bipush (v := 90) rfl kb_90 ?_
              refine x_icge (tgt := 141) rfl rfl (br_f (by decide) ?_)
              refine x_aloadn (x := 125) rfl rfl ?_
              refine x_getR (b := 126) 12 2 rfl f_12_8 rfl (congrArg Prod.fst (F.1 125 (12, 92) rfl rfl)) (F.2.1 16002 126 rfl rfl) ?_
              refine x_iload (x := 20) rfl rfl ?_
              refine x_iload (x := 44) rfl rfl ?_
              refine y_iadd (v := 64) rfl (by decide) ?_
              refine x_iconst (v := 0) rfl ki_0 ?_
              refine y_iast (N := 50660) 64 rfl (F.1 126 (100, 50660) rfl rfl) rfl (jinb_of (by decide)) (by decide) ?_
              refine x_iinc (x := 44) (v := 45) (ls' := [(9, .int 45), (8, .int 20), (7, .int 0), (6, .int 1), (0, .ref 125), (1, .int a1), (2, .int a2), (3, .int a3), (4, .int a4), (5, .int a5)]) rfl rfl (by decide) rfl rfl ?_
              refine x_goto (tgt := 117) rfl rfl ?_
              refine x_iload (x := 45) rfl rfl ?_
              refine x_bipush (v := 90) rfl kb_90 ?_
              refine x_icge (tgt := 141) rfl rfl (br_f (by decide) ?_)
              refine x_aloadn (x := 125) rfl rfl ?_
              refine x_getR (b := 126) 12 2 rfl f_12_8 rfl (congrArg Prod.fst (F.1 125 (12, 92) rfl rfl)) (F.2.1 16002 126 rfl rfl) ?_
              refine x_iload (x := 20) rfl rfl ?_
              refine x_iload (x := 45) rfl rfl ?_
              refine y_iadd (v := 65) rfl (by decide) ?_
              refine x_iconst (v := 0) rfl ki_0 ?_
              refine y_iast (N := 50660) 65 rfl (F.1 126 (100, 50660) rfl rfl) rfl (jinb_of (by decide)) (by decide) ?_
              refine x_iinc (x := 45) (v := 46) (ls' := [(9, .int 46), (8, .int 20), (7, .int 0), (6, .int 1), (0, .ref 125), (1, .int a1), (2, .int a2), (3, .int a3), (4, .int a4), (5, .int a5)]) rfl rfl (by decide) rfl rfl ?_
              refine x_goto (tgt := 117) rfl rfl ?_
              refine x_iload (x := 46) rfl rfl ?_
              refine x_bipush (v := 90) rfl kb_90 ?_
              refine x_icge (tgt := 141) rfl rfl (br_f (by decide) ?_)
              refine x_aloadn (x := 125) rfl rfl ?_
              refine x_getR (b := 126) 12 2 rfl f_12_8 rfl (congrArg Prod.fst (F.1 125 (12, 92) rfl rfl)) (F.2.1 16002 126 rfl rfl) ?_
              refine x_iload (x := 20) rfl rfl ?_
              refine x_iload (x := 46) rfl rfl ?_
              refine y_iadd (v := 66) rfl (by decide) ?_
              refine x_iconst (v := 0) rfl ki_0 ?_
              refine y_iast (N := 50660) 66 rfl (F.1 126 (100, 50660) rfl rfl) rfl (jinb_of (by decide)) (by decide) ?_
              refine x_iinc (x := 46) (v := 47) (ls' := [(9, .int 47), (8, .int 20), (7, .int 0), (6, .int 1), (0, .ref 125), (1, .int a1), (2, .int a2), (3, .int a3), (4, .int a4), (5, .int a5)]) rfl rfl (by decide) rfl rfl ?_
              refine x_goto (tgt := 117) rfl rfl ?_
              refine x_iload (x := 47) rfl rfl ?_
              refine x_bipush (v := 90) rfl kb_90 ?_
              refine x_icge (tgt := 141) rfl rfl (br_f (by decide) ?_)
              refine x_aloadn (x := 125) rfl rfl ?_
              refine x_getR (b := 126) 12 2 rfl f_12_8 rfl (congrArg Prod.fst (F.1 125 (12, 92) rfl rfl)) (F.2.1 16002 126 rfl rfl) ?_
              refine x_iload (x := 20) rfl rfl ?_
              refine x_iload (x := 47) rfl rfl ?_
              refine y_iadd (v := 67) rfl (by decide) ?_
              refine x_iconst (v := 0) rfl ki_0 ?_
              refine y_iast (N := 50660) 67 rfl (F.1 126 (100, 50660) rfl rfl) rfl (jinb_of (by decide)) (by decide) ?_
              refine x_iinc (x := 47) (v := 48) (ls' := [(9, .int 48), (8, .int 20), (7, .int 0), (6, .int 1), (0, .ref 125), (1, .int a1), (2, .int a2), (3, .int a3), (4, .int a4), (5, .int a5)]) rfl rfl (by decide) rfl rfl ?_
              refine x_goto (tgt := 117) rfl rfl ?_
              refine x_iload (x := 48) rfl rfl ?_
              refine x_bipush (v := 90) rfl kb_90 ?_
              refine x_icge (tgt := 141) rfl rfl (br_f (by decide) ?_)
              refine x_aloadn (x := 125) rfl rfl ?_
              refine x_getR (b := 126) 12 2 rfl f_12_8 rfl (congrArg Prod.fst (F.1 125 (12, 92) rfl rfl)) (F.2.1 16002 126 rfl rfl) ?_
              refine x_iload (x := 20) rfl rfl ?_
              refine x_iload (x := 48) rfl rfl ?_
              refine y_iadd (v := 68) rfl (by decide) ?_
              refine x_iconst (v := 0) rfl ki_0 ?_
              refine y_iast (N := 50660) 68 rfl (F.1 126 (100, 50660) rfl rfl) rfl (jinb_of (by decide)) (by decide) ?_
              refine x_iinc (x := 48) (v := 49) (ls' := [(9, .int 49), (8, .int 20), (7, .int 0), (6, .int 1), (0, .ref 125), (1, .int a1), (2, .int a2), (3, .int a3), (4, .int a4), (5, .int a5)]) rfl rfl (by decide) rfl rfl ?_
              refine x_goto (tgt := 117) rfl rfl ?_
              refine x_iload (x := 49) rfl rfl ?_
              refine x_bipush (v := 90) rfl kb_90 ?_
              refine x_icge (tgt := 141) rfl rfl (br_f (by decide) ?_)
              refine x_aloadn (x := 125) rfl rfl ?_
              refine x_getR (b := 126) 12 2 rfl f_12_8 rfl (congrArg Prod.fst (F.1 125 (12, 92) rfl rfl)) (F.2.1 16002 126 rfl rfl) ?_
              refine x_iload (x := 20) rfl rfl ?_
              refine x_iload (x := 49) rfl rfl ?_
              refine y_iadd (v := 69) rfl (by decide) ?_
              refine x_iconst (v := 0) rfl ki_0 ?_
              refine y_iast (N := 50660) 69 rfl (F.1 126 (100, 50660) rfl rfl) rfl (jinb_of (by decide)) (by decide) ?_
              refine x_iinc (x := 49) (v := 50) (ls' := [(9, .int 50), (8, .int 20), (7, .int 0), (6, .int 1), (0, .ref 125), (1, .int a1), (2, .int a2), (3, .int a3), (4, .int a4), (5, .int a5)]) rfl rfl (by decide) rfl rfl ?_
              refine x_goto (tgt := 117) rfl rfl ?_
              refine x_iload (x := 50) rfl rfl ?_
              refine x_bipush (v := 90) rfl kb_90 ?_
              refine x_icge (tgt := 141) rfl rfl (br_f (by decide) ?_)
              refine x_aloadn (x := 125) rfl rfl ?_
              refine x_getR (b := 126) 12 2 rfl f_12_8 rfl (congrArg Prod.fst (F.1 125 (12, 92) rfl rfl)) (F.2.1 16002 126 rfl rfl) ?_
              refine x_iload (x := 20) rfl rfl ?_
              refine x_iload (x := 50) rfl rfl ?_
              refine y_iadd (v := 70) rfl (by decide) ?_
              refine x_iconst (v := 0) rfl ki_0 ?_
              refine y_iast (N := 50660) 70 rfl (F.1 126 (100, 50660) rfl rfl) rfl (jinb_of (by decide)) (by decide) ?_
              refine x_iinc (x := 50) (v := 51) (ls' := [(9, .int 51), (8, .int 20), (7, .int 0), (6, .int 1), (0, .ref 125), (1, .int a1), (2, .int a2), (3, .int a3), (4, .int a4), (5, .int a5)]) rfl rfl (by decide) rfl rfl ?_
              refine x_goto (tgt := 117) rfl rfl ?_
              refine x_iload (x := 51) rfl rfl ?_
              refine x_bipush (v := 90) rfl kb_90 ?_
              refine x_icge (tgt := 141) rfl rfl (br_f (by decide) ?_)
              refine x_aloadn (x := 125) rfl rfl ?_
              refine x_getR (b := 126) 12 2 rfl f_12_8 rfl (congrArg Prod.fst (F.1 125 (12, 92) rfl rfl)) (F.2.1 16002 126 rfl rfl) ?_
              refine x_iload (x := 20) rfl rfl ?_
              refine x_iload (x := 51) rfl rfl ?_
              refine y_iadd (v := 71) rfl (by decide) ?_
              refine x_iconst (v := 0) rfl ki_0 ?_
              refine y_iast (N := 50660) 71 rfl (F.1 126 (100, 50660) rfl rfl) rfl (jinb_of (by decide)) (by decide) ?_
              refine x_iinc (x := 51) (v := 52) (ls' := [(9, .int 52), (8, .int 20), (7, .int 0), (6, .int 1), (0, .ref 125), (1, .int a1), (2, .int a2), (3, .int a3), (4, .int a4), (5, .int a5)]) rfl rfl (by decide) rfl rfl ?_
              refine x_goto (tgt := 117) rfl rfl ?_
              refine x_iload (x := 52) rfl rfl ?_
              refine x_bipush (v := 90) rfl kb_90 ?_
              refine x_icge (tgt := 141) rfl rfl (br_f (by decide) ?_)
              refine x_aloadn (x := 125) rfl rfl ?_
              refine x_getR (b := 126) 12 2 rfl f_12_8 rfl (congrArg Prod.fst (F.1 125 (12, 92) rfl rfl)) (F.2.1 16002 126 rfl rfl) ?_
              refine x_iload (x := 20) rfl rfl ?_
              refine x_iload (x := 52) rfl rfl ?_
              refine y_iadd (v := 72) rfl (by decide) ?_
              refine x_iconst (v := 0) rfl ki_0 ?_
              refine y_iast (N := 50660) 72 rfl (F.1 126 (100, 50660) rfl rfl) rfl (jinb_of (by decide)) (by decide) ?_
              refine x_iinc (x := 52) (v := 53) (ls' := [(9, .int 53), (8, .int 20), (7, .int 0), (6, .int 1), (0, .ref 125), (1, .int a1), (2, .int a2), (3, .int a3), (4, .int a4), (5, .int a5)]) rfl rfl (by decide) rfl rfl ?_
              refine x_goto (tgt := 117) rfl rfl ?_
              refine x_iload (x := 53) rfl rfl ?_
              refine x_bipush (v := 90) rfl kb_90 ?_
              refine x_icge (tgt := 141) rfl rfl (br_f (by decide) ?_)
              refine x_aloadn (x := 125) rfl rfl ?_
              refine x_getR (b := 126) 12 2 rfl f_12_8 rfl (congrArg Prod.fst (F.1 125 (12, 92) rfl rfl)) (F.2.1 16002 126 rfl rfl) ?_
              refine x_iload (x := 20) rfl rfl ?_
              refine x_iload (x := 53) rfl rfl ?_
              refine y_iadd (v := 73) rfl (by decide) ?_
              refine x_iconst (v := 0) rfl ki_0 ?_
              refine y_iast (N := 50660) 73 rfl (F.1 126 (100, 50660) rfl rfl) rfl (jinb_of (by decide)) (by decide) ?_
              refine x_iinc (x := 53) (v := 54) (ls' := [(9, .int 54), (8, .int 20), (7, .int 0), (6, .int 1), (0, .ref 125), (1, .int a1), (2, .int a2), (3, .int a3), (4, .int a4), (5, .int a5)]) rfl rfl (by decide) rfl rfl ?_
              refine x_goto (tgt := 117) rfl rfl ?_
              refine x_iload (x := 54) rfl rfl ?_
              refine x_bipush (v := 90) rfl kb_90 ?_
              refine x_icge (tgt := 141) rfl rfl (br_f (by decide) ?_)
              refine x_aloadn (x := 125) rfl rfl ?_
              refine x_getR (b := 126) 12 2 rfl f_12_8 rfl (congrArg Prod.fst (F.1 125 (12, 92) rfl rfl)) (F.2.1 16002 126 rfl rfl) ?_
              refine x_iload (x := 20) rfl rfl ?_
              refine x_iload (x := 54) rfl rfl ?_
              refine y_iadd (v := 74) rfl (by decide) ?_
              refine x_iconst (v := 0) rfl ki_0 ?_
              refine y_iast (N := 50660) 74 rfl (F.1 126 (100, 50660) rfl rfl) rfl (jinb_of (by decide)) (by decide) ?_
              refine x_iinc (x := 54) (v := 55) (ls' := [(9, .int 55), (8, .int 20), (7, .int 0), (6, .int 1), (0, .ref 125), (1, .int a1), (2, .int a2), (3, .int a3), (4, .int a4), (5, .int a5)]) rfl rfl (by decide) rfl rfl ?_
              refine x_goto (tgt := 117) rfl rfl ?_
              refine x_iload (x := 55) rfl rfl ?_
              refine x_bipush (v := 90) rfl kb_90 ?_
              refine x_icge (tgt := 141) rfl rfl (br_f (by decide) ?_)
              refine x_aloadn (x := 125) rfl rfl ?_
              refine x_getR (b := 126) 12 2 rfl f_12_8 rfl (congrArg Prod.fst (F.1 125 (12, 92) rfl rfl)) (F.2.1 16002 126 rfl rfl) ?_
              refine x_iload (x := 20) rfl rfl ?_
              refine x_iload (x := 55) rfl rfl ?_
              refine y_iadd (v := 75) rfl (by decide) ?_
              refine x_iconst (v := 0) rfl ki_0 ?_
              refine y_iast (N := 50660) 75 rfl (F.1 126 (100, 50660) rfl rfl) rfl (jinb_of (by decide)) (by decide) ?_
              refine x_iinc (x := 55) (v := 56) (ls' := [(9, .int 56), (8, .int 20), (7, .int 0), (6, .int 1), (0, .ref 125), (1, .int a1), (2, .int a2), (3, .int a3), (4, .int a4), (5, .int a5)]) rfl rfl (by decide) rfl rfl ?_
              refine x_goto (tgt := 117) rfl rfl ?_
              refine x_iload (x := 56) rfl rfl ?_
              refine x_bipush (v := 90) rfl kb_90 ?_
              refine x_icge (tgt := 141) rfl rfl (br_f (by decide) ?_)
              refine x_aloadn (x := 125) rfl rfl ?_
              refine x_getR (b := 126) 12 2 rfl f_12_8 rfl (congrArg Prod.fst (F.1 125 (12, 92) rfl rfl)) (F.2.1 16002 126 rfl rfl) ?_
              refine x_iload (x := 20) rfl rfl ?_
              refine x_iload (x := 56) rfl rfl ?_
              refine y_iadd (v := 76) rfl (by decide) ?_
              refine x_iconst (v := 0) rfl ki_0 ?_
              refine y_iast (N := 50660) 76 rfl (F.1 126 (100, 50660) rfl rfl) rfl (jinb_of (by decide)) (by decide) ?_
              refine x_iinc (x := 56) (v := 57) (ls' := [(9, .int 57), (8, .int 20), (7, .int 0), (6, .int 1), (0, .ref 125), (1, .int a1), (2, .int a2), (3, .int a3), (4, .int a4), (5, .int a5)]) rfl rfl (by decide) rfl rfl ?_
              refine x_goto (tgt := 117) rfl rfl ?_
              refine x_iload (x := 57) rfl rfl ?_
              refine x_bipush (v := 90) rfl kb_90 ?_
              refine x_icge (tgt := 141) rfl rfl (br_f (by decide) ?_)
              refine x_aloadn (x := 125) rfl rfl ?_
              refine x_getR (b := 126) 12 2 rfl f_12_8 rfl (congrArg Prod.fst (F.1 125 (12, 92) rfl rfl)) (F.2.1 16002 126 rfl rfl) ?_
              refine x_iload (x := 20) rfl rfl ?_
              refine x_iload (x := 57) rfl rfl ?_
              refine y_iadd (v := 77) rfl (by decide) ?_
              refine x_iconst (v := 0) rfl ki_0 ?_
              refine y_iast (N := 50660) 77 rfl (F.1 126 (100, 50660) rfl rfl) rfl (jinb_of (by decide)) (by decide) ?_
              refine x_iinc (x := 57) (v := 58) (ls' := [(9, .int 58), (8, .int 20), (7, .int 0), (6, .int 1), (0, .ref 125), (1, .int a1), (2, .int a2), (3, .int a3), (4, .int a4), (5, .int a5)]) rfl rfl (by decide) rfl rfl ?_
              refine x_goto (tgt := 117) rfl rfl ?_
              refine x_iload (x := 58) rfl rfl ?_
              refine x_bipush (v := 90) rfl kb_90 ?_
              refine x_icge (tgt := 141) rfl rfl (br_f (by decide) ?_)
              refine x_aloadn (x := 125) rfl rfl ?_
              refine x_getR (b := 126) 12 2 rfl f_12_8 rfl (congrArg Prod.fst (F.1 125 (12, 92) rfl rfl)) (F.2.1 16002 126 rfl rfl) ?_
              refine x_iload (x := 20) rfl rfl ?_
              refine x_iload (x := 58) rfl rfl ?_
              refine y_iadd (v := 78) rfl (by decide) ?_
              refine x_iconst (v := 0) rfl ki_0 ?_
              refine y_iast (N := 50660) 78 rfl (F.1 126 (100, 50660) rfl rfl) rfl (jinb_of (by decide)) (by decide) ?_
              refine x_iinc (x := 58) (v := 59) (ls' := [(9, .int 59), (8, .int 20), (7, .int 0), (6, .int 1), (0, .ref 125), (1, .int a1), (2, .int a2), (3, .int a3), (4, .int a4), (5, .int a5)]) rfl rfl (by decide) rfl rfl ?_
              refine x_goto (tgt := 117) rfl rfl ?_
              refine x_iload (x := 59) rfl rfl ?_
              refine x_bipush (v := 90) rfl kb_90 ?_
              refine x_icge (tgt := 141) rfl rfl (br_f (by decide) ?_)
              refine x_aloadn (x := 125) rfl rfl ?_
              refine x_getR (b := 126) 12 2 rfl f_12_8 rfl (congrArg Prod.fst (F.1 125 (12, 92) rfl rfl)) (F.2.1 16002 126 rfl rfl) ?_
              refine x_iload (x := 20) rfl rfl ?_
              refine x_iload (x := 59) rfl rfl ?_
              refine y_iadd (v := 79) rfl (by decide) ?_
              refine x_iconst (v := 0) rfl ki_0 ?_
              refine y_iast (N := 50660) 79 rfl (F.1 126 (100, 50660) rfl rfl) rfl (jinb_of (by decide)) (by decide) ?_
              refine x_iinc (x := 59) (v := 60) (ls' := [(9, .int 60), (8, .int 20), (7, .int 0), (6, .int 1), (0, .ref 125), (1, .int a1), (2, .int a2), (3, .int a3), (4, .int a4), (5, .int a5)]) rfl rfl (by decide) rfl rfl ?_
              refine x_goto (tgt := 117) rfl rfl ?_
              refine x_iload (x := 60) rfl rfl ?_
              refine x_bipush (v := 90) rfl kb_90 ?_
              refine x_icge (tgt := 141) rfl rfl (br_f (by decide) ?_)
              refine x_aloadn (x := 125) rfl rfl ?_
              refine x_getR (b := 126) 12 2 rfl f_12_8 rfl (congrArg Prod.fst (F.1 125 (12, 92) rfl rfl)) (F.2.1 16002 126 rfl rfl) ?_
              refine x_iload (x := 20) rfl rfl ?_
              refine x_iload (x := 60) rfl rfl ?_
              refine y_iadd (v := 80) rfl (by decide) ?_
              refine x_iconst (v := 0) rfl ki_0 ?_
              refine y_iast (N := 50660) 80 rfl (F.1 126 (100, 50660) rfl rfl) rfl (jinb_of (by decide)) (by decide) ?_
              refine x_iinc (x := 60) (v := 61) (ls' := [(9, .int 61), (8, .int 20), (7, .int 0), (6, .int 1), (0, .ref 125), (1, .int a1), (2, .int a2), (3, .int a3), (4, .int a4), (5, .int a5)]) rfl rfl (by decide) rfl rfl ?_
              refine x_goto (tgt := 117) rfl rfl ?_
              refine x_iload (x := 61) rfl rfl ?_
              refine x_bipush (v := 90) rfl kb_90 ?_
              refine x_icge (tgt := 141) rfl rfl (br_f (by decide) ?_)
              refine x_aloadn (x := 125) rfl rfl ?_
              refine x_getR (b := 126) 12 2 rfl f_12_8 rfl (congrArg Prod.fst (F.1 125 (12, 92) rfl rfl)) (F.2.1 16002 126 rfl rfl) ?_
              refine x_iload (x := 20) rfl rfl ?_
              refine x_iload (x := 61) rfl rfl ?_
              refine y_iadd (v := 81) rfl (by decide) ?_
              refine x_iconst (v := 0) rfl ki_0 ?_
              refine y_iast (N := 50660) 81 rfl (F.1 126 (100, 50660) rfl rfl) rfl (jinb_of (by decide)) (by decide) ?_
              refine x_iinc (x := 61) (v := 62) (ls' := [(9, .int 62), (8, .int 20), (7, .int 0), (6, .int 1), (0, .ref 125), (1, .int a1), (2, .int a2), (3, .int a3), (4, .int a4), (5, .int a5)]) rfl rfl (by decide) rfl rfl ?_
              refine x_goto (tgt := 117) rfl rfl ?_
              refine x_iload (x := 62) rfl rfl ?_
              refine x_bipush (v := 90) rfl kb_90 ?_
              refine x_icge (tgt := 141) rfl rfl (br_f (by decide) ?_)
              refine x_aloadn (x := 125) rfl rfl ?_
              refine x_getR (b := 126) 12 2 rfl f_12_8 rfl (congrArg Prod.fst (F.1 125 (12, 92) rfl rfl)) (F.2.1 16002 126 rfl rfl) ?_
              refine x_iload (x := 20) rfl rfl ?_
              refine x_iload (x := 62) rfl rfl ?_
              refine y_iadd (v := 82) rfl (by decide) ?_
              refine x_iconst (v := 0) rfl ki_0 ?_
              refine y_iast (N := 50660) 82 rfl (F.1 126 (100, 50660) rfl rfl) rfl (jinb_of (by decide)) (by decide) ?_
              refine x_iinc (x := 62) (v := 63) (ls' := [(9, .int 63), (8, .int 20), (7, .int 0), (6, .int 1), (0, .ref 125), (1, .int a1), (2, .int a2), (3, .int a3), (4, .int a4), (5, .int a5)]) rfl rfl (by decide) rfl rfl ?_
              refine x_goto (tgt := 117) rfl rfl ?_
              refine x_iload (x := 63) rfl rfl ?_
              refine x_bipush (v := 90) rfl kb_90 ?_
              refine x_icge (tgt := 141) rfl rfl (br_f (by decide) ?_)
              refine x_aloadn (x := 125) rfl rfl ?_
              refine x_getR (b := 126) 12 2 rfl f_12_8 rfl (congrArg Prod.fst (F.1 125 (12, 92) rfl rfl)) (F.2.1 16002 126 rfl rfl) ?_
              refine x_iload (x := 20) rfl rfl ?_
              refine x_iload (x := 63) rfl rfl ?_
              refine y_iadd (v := 83) rfl (by decide) ?_
              refine x_iconst (v := 0) rfl ki_0 ?_
              refine y_iast (N := 50660) 83 rfl (F.1 126 (100, 50660) rfl rfl) rfl (jinb_of (by decide)) (by decide) ?_
              refine x_iinc (x := 63) (v := 64) (ls' := [(9, .int 64), (8, .int 20), (7, .int 0), (6, .int 1), (0, .ref 125), (1, .int a1), (2, .int a2), (3, .int a3), (4, .int a4), (5, .int a5)]) rfl rfl (by decide) rfl rfl ?_
              refine x_goto (tgt := 117) rfl rfl ?_
              refine x_iload (x := 64) rfl rfl ?_
              refine x_bipush (v := 90) rfl kb_90 ?_
              refine x_icge (tgt := 141) rfl rfl (br_f (by decide) ?_)
              refine x_aloadn (x := 125) rfl rfl ?_
              refine x_getR (b := 126) 12 2 rfl f_12_8 rfl (congrArg Prod.fst (F.1 125 (12, 92) rfl rfl)) (F.2.1 16002 126 rfl rfl) ?_
              refine x_iload (x := 20) rfl rfl ?_
              refine x_iload (x := 64) rfl rfl ?_
              refine y_iadd (v := 84) rfl (by decide) ?_
              refine x_iconst (v := 0) rfl ki_0 ?_
              refine y_iast (N := 50660) 84 rfl (F.1 126 (100, 50660) rfl rfl) rfl (jinb_of (by decide)) (by decide) ?_
              refine x_iinc (x := 64) (v := 65) (ls' := [(9, .int 65), (8, .int 20), (7, .int 0), (6, .int 1), (0, .ref 125), (1, .int a1), (2, .int a2), (3, .int a3), (4, .int a4), (5, .int a5)]) rfl rfl (by decide) rfl rfl ?_
              refine x_goto (tgt := 117) rfl rfl ?_
              refine x_iload (x := 65) rfl rfl ?_
              refine x_bipush (v := 90) rfl kb_90 ?_
              refine x_icge (tgt := 141) rfl rfl (br_f (by decide) ?_)
              refine x_aloadn (x := 125) rfl rfl ?_
              refine x_getR (b := 126) 12 2 rfl f_12_8 rfl (congrArg Prod.fst (F.1 125 (12, 92) rfl rfl)) (F.2.1 16002 126 rfl rfl) ?_
              refine x_iload (x := 20) rfl rfl ?_
              refine x_iload (x := 65) rfl rfl ?_
              refine y_iadd (v := 85) rfl (by decide) ?_
              refine x_iconst (v := 0) rfl ki_0 ?_
              refine y_iast (N := 50660) 85 rfl (F.1 126 (100, 50660) rfl rfl) rfl (jinb_of (by decide)) (by decide) ?_
              refine x_iinc (x := 65) (v := 66) (ls' := [(9, .int 66), (8, .int 20), (7, .int 0), (6, .int 1), (0, .ref 125), (1, .int a1), (2, .int a2), (3, .int a3), (4, .int a4), (5, .int a5)]) rfl rfl (by decide) rfl rfl ?_
              refine x_goto (tgt := 117) rfl rfl ?_
              refine x_iload (x := 66) rfl rfl ?_
              refine x_bipush (v := 90) rfl kb_90 ?_
              refine x_icge (tgt := 141) rfl rfl (br_f (by decide) ?_)
              refine x_aloadn (x := 125) rfl rfl ?_
              refine x_getR (b := 126) 12 2 rfl f_12_8 rfl (congrArg Prod.fst (F.1 125 (12, 92) rfl rfl)) (F.2.1 16002 126 rfl rfl) ?_
              refine x_iload (x := 20) rfl rfl ?_
              refine x_iload (x := 66) rfl rfl ?_
              refine y_iadd (v := 86) rfl (by decide) ?_
              refine x_iconst (v := 0) rfl ki_0 ?_
              refine y_iast (N := 50660) 86 rfl (F.1 126 (100, 50660) rfl rfl) rfl (jinb_of (by decide)) (by decide) ?_
              refine x_iinc (x := 66) (v := 67) (ls' := [(9, .int 67), (8, .int 20), (7, .int 0), (6, .int 1), (0, .ref 125), (1, .int a1), (2, .int a2), (3, .int a3), (4, .int a4), (5, .int a5)]) rfl rfl (by decide) rfl rfl ?_
              refine x_goto (tgt := 117) rfl rfl ?_
              refine x_iload (x := 67) rfl rfl ?_
              refine x_bipush (v := 90) rfl kb_90 ?_
              refine x_icge (tgt := 141) rfl rfl (br_f (by decide) ?_)
              refine x_aloadn (x := 125) rfl rfl ?_
              refine x_getR (b := 126) 12 2 rfl f_12_8 rfl (congrArg Prod.fst (F.1 125 (12, 92) rfl rfl)) (F.2.1 16002 126 rfl rfl) ?_
              refine x_iload (x := 20) rfl rfl ?_
              refine x_iload (x := 67) rfl rfl ?_
              refine y_iadd (v := 87) rfl (by decide) ?_
              refine x_iconst (v := 0) rfl ki_0 ?_
              refine y_iast (N := 50660) 87 rfl (F.1 126 (100, 50660) rfl rfl) rfl (jinb_of (by decide)) (by decide) ?_
              refine x_iinc (x := 67) (v := 68) (ls' := [(9, .int 68), (8, .int 20), (7, .int 0), (6, .int 1), (0, .ref 125), (1, .int a1), (2, .int a2), (3, .int a3), (4, .int a4), (5, .int a5)]) rfl rfl (by decide) rfl rfl ?_
              refine x_goto (tgt := 117) rfl rfl ?_
              refine x_iload (x := 68) rfl rfl ?_
              refine x_bipush (v := 90) rfl kb_90 ?_
              refine x_icge (tgt := 141) rfl rfl (br_f (by decide) ?_)
              refine x_aloadn (x := 125) rfl rfl ?_
              refine x_getR (b := 126) 12 2 rfl f_12_8 rfl (congrArg Prod.fst (F.1 125 (12, 92) rfl rfl)) (F.2.1 16002 126 rfl rfl) ?_
              refine x_iload (x := 20) rfl rfl ?_
              refine x_iload (x := 68) rfl rfl ?_
              refine y_iadd (v := 88) rfl (by decide) ?_
              refine x_iconst (v := 0) rfl ki_0 ?_
              refine y_iast (N := 50660) 88 rfl (F.1 126 (100, 50660) rfl rfl) rfl (jinb_of (by decide)) (by decide) ?_
              refine x_iinc (x := 68) (v := 69) (ls' := [(9, .int 69), (8, .int 20), (7, .int 0), (6, .int 1), (0, .ref 125), (1, .int a1), (2, .int a2), (3, .int a3), (4, .int a4), (5, .int a5)]) rfl rfl (by decide) rfl rfl ?_
              refine x_goto (tgt := 117) rfl rfl ?_
              refine x_iload (x := 69) rfl rfl ?_
              refine x_bipush (v := 90) rfl kb_90 ?_
              refine x_icge (tgt := 141) rfl rfl (br_f (by decide) ?_)
              refine x_aloadn (x := 125) rfl rfl ?_
              refine x_getR (b := 126) 12 2 rfl f_12_8 rfl (congrArg Prod.fst (F.1 125 (12, 92) rfl rfl)) (F.2.1 16002 126 rfl rfl) ?_
              refine x_iload (x := 20) rfl rfl ?_
              refine x_iload (x := 69) rfl rfl ?_
              refine y_iadd (v := 89) rfl (by decide) ?_
              refine x_iconst (v := 0) rfl ki_0 ?_
              refine y_iast (N := 50660) 89 rfl (F.1 126 (100, 50660) rfl rfl) rfl (jinb_of (by decide)) (by decide) ?_
              refine x_iinc (x := 69) (v := 70) (ls' := [(9, .int 70), (8, .int 20), (7, .int 0), (6, .int 1), (0, .ref 125), (1, .int a1), (2, .int a2), (3, .int a3), (4, .int a4), (5, .int a5)]) rfl rfl (by decide) rfl rfl ?_
              refine x_goto (tgt := 117) rfl rfl ?_
              refine x_iload (x := 70) rfl rfl ?_
              refine x_bipush (v := 90) rfl kb_90 ?_
              refine x_icge (tgt := 141) rfl rfl (br_f (by decide) ?_)
              refine x_aloadn (x := 125) rfl rfl ?_
              refine x_getR (b := 126) 12 2 rfl f_12_8 rfl (congrArg Prod.fst (F.1 125 (12, 92) rfl rfl)) (F.2.1 16002 126 rfl rfl) ?_
              refine x_iload (x := 20) rfl rfl ?_
              refine x_iload (x := 70) rfl rfl ?_
              refine y_iadd (v := 90) rfl (by decide) ?_
              refine x_iconst (v := 0) rfl ki_0 ?_
              refine y_iast (N := 50660) 90 rfl (F.1 126 (100, 50660) rfl rfl) rfl (jinb_of (by decide)) (by decide) ?_
              refine x_iinc (x := 70) (v := 71) (ls' := [(9, .int 71), (8, .int 20), (7, .int 0), (6, .int 1), (0, .ref 125), (1, .int a1), (2, .int a2), (3, .int a3), (4, .int a4), (5, .int a5)]) rfl rfl (by decide) rfl rfl ?_
              refine x_goto (tgt := 117) rfl rfl ?_
              refine x_iload (x := 71) rfl rfl ?_
              refine x_bipush (v := 90) rfl kb_90 ?_
              refine x_icge (tgt := 141) rfl rfl (br_f (by decide) ?_)
              refine x_aloadn (x := 125) rfl rfl ?_
              refine x_getR (b := 126) 12 2 rfl f_12_8 rfl (congrArg Prod.fst (F.1 125 (12, 92) rfl rfl)) (F.2.1 16002 126 rfl rfl) ?_
              refine x_iload (x := 20) rfl rfl ?_
              refine x_iload (x := 71) rfl rfl ?_
              refine y_iadd (v := 91) rfl (by decide) ?_
              refine x_iconst (v := 0) rfl ki_0 ?_
              refine y_iast (N := 50660) 91 rfl (F.1 126 (100, 50660) rfl rfl) rfl (jinb_of (by decide)) (by decide) ?_
              refine x_iinc (x := 71) (v := 72) (ls' := [(9, .int 72), (8, .int 20), (7, .int 0), (6, .int 1), (0, .ref 125), (1, .int a1), (2, .int a2), (3, .int a3), (4, .int a4), (5, .int a5)]) rfl rfl (by decide) rfl rfl ?_
              refine x_goto (tgt := 117) rfl rfl ?_
              refine x_iload (x := 72) rfl rfl ?_
              refine x_bipush (v := 90) rfl kb_90 ?_
              refine x_icge (tgt := 141) rfl rfl (br_f (by decide) ?_)
              refine x_aloadn (x := 125) rfl rfl ?_
              refine x_getR (b := 126) 12 2 rfl f_12_8 rfl (congrArg Prod.fst (F.1 125 (12, 92) rfl rfl)) (F.2.1 16002 126 rfl rfl) ?_
              refine x_iload (x := 20) rfl rfl ?_
              refine x_iload (x := 72) rfl rfl ?_
              refine y_iadd (v := 92) rfl (by decide) ?_
              refine x_iconst (v := 0) rfl ki_0 ?_
              refine y_iast (N := 50660) 92 rfl (F.1 126 (100, 50660) rfl rfl) rfl (jinb_of (by decide)) (by decide) ?_
              refine x_iinc (x := 72) (v := 73) (ls' := [(9, .int 73), (8, .int 20), (7, .int 0), (6, .int 1), (0, .ref 125), (1, .int a1), (2, .int a2), (3, .int a3), (4, .int a4), (5, .int a5)]) rfl rfl (by decide) rfl rfl ?_
              refine x_goto (tgt := 117) rfl rfl ?_
              refine x_iload (x := 73) rfl rfl ?_
              refine x_bipush (v := 90) rfl kb_90 ?_
              refine x_icge (tgt := 141) rfl rfl (br_f (by decide) ?_)
              refine x_aloadn (x := 125) rfl rfl ?_
              refine x_getR (b := 126) 12 2 rfl f_12_8 rfl (congrArg Prod.fst (F.1 125 (12, 92) rfl rfl)) (F.2.1 16002 126 rfl rfl) ?_
              refine x_iload (x := 20) rfl rfl ?_
              refine x_iload (x := 73) rfl rfl ?_
              refine y_iadd (v := 93) rfl (by decide) ?_
              refine x_iconst (v := 0) rfl ki_0 ?_
              refine y_iast (N := 50660) 93 rfl (F.1 126 (100, 50660) rfl rfl) rfl (jinb_of (by decide)) (by decide) ?_
              refine x_iinc (x := 73) (v := 74) (ls' := [(9, .int 74), (8, .int 20), (7, .int 0), (6, .int 1), (0, .ref 125), (1, .int a1), (2, .int a2), (3, .int a3), (4, .int a4), (5, .int a5)]) rfl rfl (by decide) rfl rfl ?_
              refine x_goto (tgt := 117) rfl rfl ?_
              refine x_iload (x := 74) rfl rfl ?_
              refine x_bipush (v := 90) rfl kb_90 ?_
              refine x_icge (tgt := 141) rfl rfl (br_f (by decide) ?_)
              refine x_aloadn (x := 125) rfl rfl ?_
              refine x_getR (b := 126) 12 2 rfl f_12_8 rfl (congrArg Prod.fst (F.1 125 (12, 92) rfl rfl)) (F.2.1 16002 126 rfl rfl) ?_
              refine x_iload (x := 20) rfl rfl ?_
              refine x_iload (x := 74) rfl rfl ?_
              refine y_iadd (v := 94) rfl (by decide) ?_
              refine x_iconst (v := 0) rfl ki_0 ?_
              refine y_iast (N := 50660) 94 rfl (F.1 126 (100, 50660) rfl rfl) rfl (jinb_of (by decide)) (by decide) ?_
              refine x_iinc (x := 74) (v := 75) (ls' := [(9, .int 75), (8, .int 20), (7, .int 0), (6, .int 1), (0, .ref 125), (1, .int a1), (2, .int a2), (3, .int a3), (4, .int a4), (5, .int a5)]) rfl rfl (by decide) rfl rfl ?_
              refine x_goto (tgt := 117) rfl rfl ?_
              refine x_iload (x := 75) rfl rfl ?_
              refine x_bipush (v := 90) rfl kb_90 ?_
              refine x_icge (tgt := 141) rfl rfl (br_f (by decide) ?_)
              refine x_aloadn (x := 125) rfl rfl ?_
              refine x_getR (b := 126) 12 2 rfl f_12_8 rfl (congrArg Prod.fst (F.1 125 (12, 92) rfl rfl)) (F.2.1 16002 126 rfl rfl) ?_
              refine x_iload (x := 20) rfl rfl ?_
              refine x_iload (x := 75) rfl rfl ?_
              refine y_iadd (v := 95) rfl (by decide) ?_
              refine x_iconst (v := 0) rfl ki_0 ?_
              refine y_iast (N := 50660) 95 rfl (F.1 126 (100, 50660) rfl rfl) rfl (jinb_of (by decide)) (by decide) ?_
              refine x_iinc (x := 75) (v := 76) (ls' := [(9, .int 76), (8, .int 20), (7, .int 0), (6, .int 1), (0, .ref 125), (1, .int a1), (2, .int a2), (3, .int a3), (4, .int a4), (5, .int a5)]) rfl rfl (by decide) rfl rfl ?_
              refine x_goto (tgt := 117) rfl rfl ?_
              refine x_iload (x := 76) rfl rfl ?_
              refine x_bipush (v := 90) rfl kb_90 ?_
              refine x_icge (tgt := 141) rfl rfl (br_f (by decide) ?_)
              refine x_aloadn (x := 125) rfl rfl ?_
              refine x_getR (b := 126) 12 2 rfl f_12_8 rfl (congrArg Prod.fst (F.1 125 (12, 92) rfl rfl)) (F.2.1 16002 126 rfl rfl) ?_
              refine x_iload (x := 20) rfl rfl ?_
              refine x_iload (x := 76) rfl rfl ?_
              refine y_iadd (v := 96) rfl (by decide) ?_
              refine x_iconst (v := 0) rfl ki_0 ?_
              refine y_iast (N := 50660) 96 rfl (F.1 126 (100, 50660) rfl rfl) rfl (jinb_of (by decide)) (by decide) ?_
              refine x_iinc (x := 76) (v := 77) (ls' := [(9, .int 77), (8, .int 20), (7, .int 0), (6, .int 1), (0, .ref 125), (1, .int a1), (2, .int a2), (3, .int a3), (4, .int a4), (5, .int a5)]) rfl rfl (by decide) rfl rfl ?_
              refine x_goto (tgt := 117) rfl rfl ?_
              refine x_iload (x := 77) rfl rfl ?_
              refine x_bipush (v := 90) rfl kb_90 ?_
              refine x_icge (tgt := 141) rfl rfl (br_f (by decide) ?_)
              refine x_aloadn (x := 125) rfl rfl ?_
              refine x_getR (b := 126) 12 2 rfl f_12_8 rfl (congrArg Prod.fst (F.1 125 (12, 92) rfl rfl)) (F.2.1 16002 126 rfl rfl) ?_
              refine x_iload (x := 20) rfl rfl ?_
              refine x_iload (x := 77) rfl rfl ?_
              refine y_iadd (v := 97) rfl (by decide) ?_
              refine x_iconst (v := 0) rfl ki_0 ?_
              refine y_iast (N := 50660) 97 rfl (F.1 126 (100, 50660) rfl rfl) rfl (jinb_of (by decide)) (by decide) ?_
              refine x_iinc (x := 77) (v := 78) (ls' := [(9, .int 78), (8, .int 20), (7, .int 0), (6, .int 1), (0, .ref 125), (1, .int a1), (2, .int a2), (3, .int a3), (4, .int a4), (5, .int a5)]) rfl rfl (by decide) rfl rfl ?_
              refine x_goto (tgt := 117) rfl rfl ?_
              refine x_iload (x := 78) rfl rfl ?_
              refine x_bipush (v := 90) rfl kb_90 ?_
              refine x_icge (tgt := 141) rfl rfl (br_f (by decide) ?_)
              refine x_aloadn (x := 125) rfl rfl ?_
              refine x_getR (b := 126) 12 2 rfl f_12_8 rfl (congrArg Prod.fst (F.1 125 (12, 92) rfl rfl)) (F.2.1 16002 126 rfl rfl) ?_
              refine x_iload (x := 20) rfl rfl ?_
              refine x_iload (x := 78) rfl rfl ?_
              refine y_iadd (v := 98) rfl (by decide) ?_
              refine x_iconst (v := 0) rfl ki_0 ?_
              refine y_iast (N := 50660) 98 rfl (F.1 126 (100, 50660) rfl rfl) rfl (jinb_of (by decide)) (by decide) ?_
              refine x_iinc (x := 78) (v := 79) (ls' := [(9, .int 79), (8, .int 20), (7, .int 0), (6, .int 1), (0, .ref 125), (1, .int a1), (2, .int a2), (3, .int a3), (4, .int a4), (5, .int a5)]) rfl rfl (by decide) rfl rfl ?_
              refine x_goto (tgt := 117) rfl rfl ?_
              refine x_iload (x := 79) rfl rfl ?_
              refine x_bipush (v := 90) rfl kb_90 ?_
              refine x_icge (tgt := 141) rfl rfl (br_f (by decide) ?_)
              refine x_aloadn (x := 125) rfl rfl ?_
              refine x_getR (b := 126) 12 2 rfl f_12_8 rfl (congrArg Prod.fst (F.1 125 (12, 92) rfl rfl)) (F.2.1 16002 126 rfl rfl) ?_
              refine x_iload (x := 20) rfl rfl ?_
              refine x_iload (x := 79) rfl rfl ?_
              refine y_iadd (v := 99) rfl (by decide) ?_
              refine x_iconst (v := 0) rfl ki_0 ?_
              refine y_iast (N := 50660) 99 rfl (F.1 126 (100, 50660) rfl rfl) rfl (jinb_of (by decide)) (by decide) ?_
              refine x_iinc (x := 79) (v := 80) (ls' := [(9, .int 80), (8, .int 20), (7, .int 0), (6, .int 1), (0, .ref 125), (1, .int a1), (2, .int a2), (3, .int a3), (4, .int a4), (5, .int a5)]) rfl rfl (by decide) rfl rfl ?_
              refine x_goto (tgt := 117) rfl rfl ?_
              refine x_iload (x := 80) rfl rfl ?_
              refine x_bipush (v := 90) rfl kb_90 ?_
              refine x_icge (tgt := 141) rfl rfl (br_f (by decide) ?_)
              refine x_aloadn (x := 125) rfl rfl ?_
              refine x_getR (b := 126) 12 2 rfl f_12_8 rfl (congrArg Prod.fst (F.1 125 (12, 92) rfl rfl)) (F.2.1 16002 126 rfl rfl) ?_
              refine x_iload (x := 20) rfl rfl ?_
              refine x_iload (x := 80) rfl rfl ?_
              refine y_iadd (v := 100) rfl (by decide) ?_
              refine x_iconst (v := 0) rfl ki_0 ?_
              refine y_iast (N := 50660) 100 rfl (F.1 126 (100, 50660) rfl rfl) rfl (jinb_of (by decide)) (by decide) ?_
              refine x_iinc (x := 80) (v := 81) (ls' := [(9, .int 81), (8, .int 20), (7, .int 0), (6, .int 1), (0, .ref 125), (1, .int a1), (2, .int a2), (3, .int a3), (4, .int a4), (5, .int a5)]) rfl rfl (by decide) rfl rfl ?_
              refine x_goto (tgt := 117) rfl rfl ?_
              refine x_iload (x := 81) rfl rfl ?_
              refine x_bipush (v := 90) rfl kb_90 ?_
              refine x_icge (tgt := 141) rfl rfl (br_f (by decide) ?_)
              refine x_aloadn (x := 125) rfl rfl ?_
              refine x_getR (b := 126) 12 2 rfl f_12_8 rfl (congrArg Prod.fst (F.1 125 (12, 92) rfl rfl)) (F.2.1 16002 126 rfl rfl) ?_
              refine x_iload (x := 20) rfl rfl ?_
              refine x_iload (x := 81) rfl rfl ?_
              refine y_iadd (v := 101) rfl (by decide) ?_
              refine x_iconst (v := 0) rfl ki_0 ?_
              refine y_iast (N := 50660) 101 rfl (F.1 126 (100, 50660) rfl rfl) rfl (jinb_of (by decide)) (by decide) ?_
              refine x_iinc (x := 81) (v := 82) (ls' := [(9, .int 82), (8, .int 20), (7, .int 0), (6, .int 1), (0, .ref 125), (1, .int a1), (2, .int a2), (3, .int a3), (4, .int a4), (5, .int a5)]) rfl rfl (by decide) rfl rfl ?_
              refine x_goto (tgt := 117) rfl rfl ?_
              refine x_iload (x := 82) rfl rfl ?_
              refine x_bipush (v := 90) rfl kb_90 ?_
              refine x_icge (tgt := 141) rfl rfl (br_f (by decide) ?_)
              refine x_aloadn (x := 125) rfl rfl ?_
              refine x_getR (b := 126) 12 2 rfl f_12_8 rfl (congrArg Prod.fst (F.1 125 (12, 92) rfl rfl)) (F.2.1 16002 126 rfl rfl) ?_
              refine x_iload (x := 20) rfl rfl ?_
              refine x_iload (x := 82) rfl rfl ?_
              refine y_iadd (v := 102) rfl (by decide) ?_
              refine x_iconst (v := 0) rfl ki_0 ?_
              refine y_iast (N := 50660) 102 rfl (F.1 126 (100, 50660) rfl rfl) rfl (jinb_of (by decide)) (by decide) ?_
              refine x_iinc (x := 82) (v := 83) (ls' := [(9, .int 83), (8, .int 20), (7, .int 0), (6, .int 1), (0, .ref 125), (1, .int a1), (2, .int a2), (3, .int a3), (4, .int a4), (5, .int a5)]) rfl rfl (by decide) rfl rfl ?_
              refine x_goto (tgt := 117) rfl rfl ?_
              refine x_iload (x := 83) rfl rfl ?_
              refine x_bipush (v := 90) rfl kb_90 ?_
              refine x_icge (tgt := 141) rfl rfl (br_f (by decide) ?_)
              refine x_aloadn (x := 125) rfl rfl ?_
              refine x_getR (b := 126) 12 2 rfl f_12_8 rfl (congrArg Prod.fst (F.1 125 (12, 92) rfl rfl)) (F.2.1 16002 126 rfl rfl) ?_
              refine x_iload (x := 20) rfl rfl ?_
              refine x_iload (x := 83) rfl rfl ?_
              refine y_iadd (v := 103) rfl (by decide) ?_
              refine x_iconst (v := 0) rfl ki_0 ?_
              refine y_iast (N := 50660) 103 rfl (F.1 126 (100, 50660) rfl rfl) rfl (jinb_of (by decide)) (by decide) ?_
              refine x_iinc (x := 83) (v := 84) (ls' := [(9, .int 84), (8, .int 20), (7, .int 0), (6, .int 1), (0, .ref 125), (1, .int a1), (2, .int a2), (3, .int a3), (4, .int a4), (5, .int a5)]) rfl rfl (by decide) rfl rfl ?_
              refine x_goto (tgt := 117) rfl rfl ?_
              refine x_iload (x := 84) rfl rfl ?_
              refine x_bipush (v := 90) rfl kb_90 ?_
              refine x_icge (tgt := 141) rfl rfl (br_f (by decide) ?_)
              refine x_aloadn (x := 125) rfl rfl ?_
              refine x_getR (b := 126) 12 2 rfl f_12_8 rfl (congrArg Prod.fst (F.1 125 (12, 92) rfl rfl)) (F.2.1 16002 126 rfl rfl) ?_
              refine x_iload (x := 20) rfl rfl ?_
              refine x_iload (x := 84) rfl rfl ?_
              refine y_iadd (v := 104) rfl (by decide) ?_
              refine x_iconst (v := 0) rfl ki_0 ?_
              refine y_iast (N := 50660) 104 rfl (F.1 126 (100, 50660) rfl rfl) rfl (jinb_of (by decide)) (by decide) ?_
              refine x_iinc (x := 84) (v := 85) (ls' := [(9, .int 85), (8, .int 20), (7, .int 0), (6, .int 1), (0, .ref 125), (1, .int a1), (2, .int a2), (3, .int a3), (4, .int a4), (5, .int a5)]) rfl rfl (by decide) rfl rfl ?_
              refine x_goto (tgt := 117) rfl rfl ?_
              refine x_iload (x := 85) rfl rfl ?_
              refine x_bipush (v := 90) rfl kb_90 ?_
              refine x_icge (tgt := 141) rfl rfl (br_f (by decide) ?_)
              refine x_aloadn (x := 125) rfl rfl ?_
              refine x_getR (b := 126) 12 2 rfl f_12_8 rfl (congrArg Prod.fst (F.1 125 (12, 92) rfl rfl)) (F.2.1 16002 126 rfl rfl) ?_
              refine x_iload (x := 20) rfl rfl ?_
              refine x_iload (x := 85) rfl rfl ?_
              refine y_iadd (v := 105) rfl (by decide) ?_
              refine x_iconst (v := 0) rfl ki_0 ?_
              refine y_iast (N := 50660) 105 rfl (F.1 126 (100, 50660) rfl rfl) rfl (jinb_of (by decide)) (by decide) ?_
              refine x_iinc (x := 85) (v := 86) (ls' := [(9, .int 86), (8, .int 20), (7, .int 0), (6, .int 1), (0, .ref 125), (1, .int a1), (2, .int a2), (3, .int a3), (4, .int a4), (5, .int a5)]) rfl rfl (by decide) rfl rfl ?_
              refine x_goto (tgt := 117) rfl rfl ?_
              refine x_iload (x := 86) rfl rfl ?_
              refine x_bipush (v := 90) rfl kb_90 ?_
              refine x_icge (tgt := 141) rfl rfl (br_f (by decide) ?_)
              refine x_aloadn (x := 125) rfl rfl ?_
              refine x_getR (b := 126) 12 2 rfl f_12_8 rfl (congrArg Prod.fst (F.1 125 (12, 92) rfl rfl)) (F.2.1 16002 126 rfl rfl) ?_
              refine x_iload (x := 20) rfl rfl ?_
              refine x_iload (x := 86) rfl rfl ?_
              refine y_iadd (v := 106) rfl (by decide) ?_
              refine x_iconst (v := 0) rfl ki_0 ?_
              refine y_iast (N := 50660) 106 rfl (F.1 126 (100, 50660) rfl rfl) rfl (jinb_of (by decide)) (by decide) ?_
              refine x_iinc (x := 86) (v := 87) (ls' := [(9, .int 87), (8, .int 20), (7, .int 0), (6, .int 1), (0, .ref 125), (1, .int a1), (2, .int a2), (3, .int a3), (4, .int a4), (5, .int a5)]) rfl rfl (by decide) rfl rfl ?_
              refine x_goto (tgt := 117) rfl rfl ?_
              refine x_iload (x := 87) rfl rfl ?_
              refine x_bipush (v := 90) rfl kb_90 ?_
              refine x_icge (tgt := 141) rfl rfl (br_f (by decide) ?_)
              refine x_aloadn (x := 125) rfl rfl ?_
              refine x_getR (b := 126) 12 2 rfl f_12_8 rfl (congrArg Prod.fst (F.1 125 (12, 92) rfl rfl)) (F.2.1 16002 126 rfl rfl) ?_
              refine x_iload (x := 20) rfl rfl ?_
              refine x_iload (x := 87) rfl rfl ?_
              refine y_iadd (v := 107) rfl (by decide) ?_
              refine x_iconst (v := 0) rfl ki_0 ?_
              refine y_iast (N := 50660) 107 rfl (F.1 126 (100, 50660) rfl rfl) rfl (jinb_of (by decide)) (by decide) ?_
              refine x_iinc (x := 87) (v := 88) (ls' := [(9, .int 88), (8, .int 20), (7, .int 0), (6, .int 1), (0, .ref 125), (1, .int a1), (2, .int a2), (3, .int a3), (4, .int a4), (5, .int a5)]) rfl rfl (by decide) rfl rfl ?_
              refine x_goto (tgt := 117) rfl rfl ?_
              refine x_iload (x := 88) rfl rfl ?_
              refine x_bipush (v := 90) rfl kb_90 ?_
              refine x_icge (tgt := 141) rfl rfl (br_f (by decide) ?_)
              refine x_aloadn (x := 125) rfl rfl ?_
              refine x_getR (b := 126) 12 2 rfl f_12_8 rfl (congrArg Prod.fst (F.1 125 (12, 92) rfl rfl)) (F.2.1 16002 126 rfl rfl) ?_
              refine x_iload (x := 20) rfl rfl ?_
              refine x_iload (x := 88) rfl rfl ?_
              refine y_iadd (v := 108) rfl (by decide) ?_
              refine x_iconst (v := 0) rfl ki_0 ?_
              refine y_iast (N := 50660) 108 rfl (F.1 126 (100, 50660) rfl rfl) rfl (jinb_of (by decide)) (by decide) ?_
              refine x_iinc (x := 88) (v := 89) (ls' := [(9, .int 89), (8, .int 20), (7, .int 0), (6, .int 1), (0, .ref 125), (1, .int a1), (2, .int a2), (3, .int a3), (4, .int a4), (5, .int a5)]) rfl rfl (by decide) rfl rfl ?_
              refine x_goto (tgt := 117) rfl rfl ?_
              refine x_iload (x := 89) rfl rfl ?_
              refine x_bipush (v := 90) rfl kb_90 ?_
              refine x_icge (tgt := 141) rfl rfl (br_f (by decide) ?_)
              refine x_aloadn (x := 125) rfl rfl ?_
              refine x_getR (b := 126) 12 2 rfl f_12_8 rfl (congrArg Prod.fst (F.1 125 (12, 92) rfl rfl)) (F.2.1 16002 126 rfl rfl) ?_
              refine x_iload (x := 20) rfl rfl ?_
              refine x_iload (x := 89) rfl rfl ?_
              refine y_iadd (v := 109) rfl (by decide) ?_
              refine x_iconst (v := 0) rfl ki_0 ?_
              refine y_iast (N := 50660) 109 rfl (F.1 126 (100, 50660) rfl rfl) rfl (jinb_of (by decide)) (by decide) ?_
              refine x_iinc (x := 89) (v := 90) (ls' := [(9, .int 90), (8, .int 20), (7, .int 0), (6, .int 1), (0, .ref 125), (1, .int a1), (2, .int a2), (3, .int a3), (4, .int a4), (5, .int a5)]) rfl rfl (by decide) rfl rfl ?_
              refine x_goto (tgt := 117) rfl rfl ?_
              refine x_iload (x := 90) rfl rfl ?_
              refine x_bipush (v := 90) rfl kb_90 ?_
              refine x_icge (tgt := 141) rfl rfl (br_t (by decide) ?_)
              refine x_aloadn (x := 125) rfl rfl ?_
              refine x_inv (N := m_X12_begin) (As := []) (b := 125) (st := []) (d' := 99) (mc := 0) (ms := 0) (host := "") 12 rfl t_X12_begin ⟨Or.inl q_12_280, i_X12_begin.1, i_X12_begin.2⟩ ⟨by decide, rfl⟩ (congrArg Prod.fst (F.1 125 (12, 92) rfl rfl)) rfl (by decide) rfl rfl ⟨by decide, by decide⟩ (jC.of rfl k_X12_begin rfl ?_)
              show jX m_X12_begin 99 0 0 0 [(0, .ref 125)] [] _ 0 0 _
              refine x_aloadn (x := 125) rfl rfl ?_
              refine x_iconst (v := 0) rfl ki_0 ?_
              refine x_putI 12 10 rfl f_12_211 rfl (jfin_no TX12 RX12 92 rfl rfl) (congrArg Prod.fst (F.1 125 (12, 92) rfl rfl)) rfl ?_
              refine x_aloadn (x := 125) rfl rfl ?_
              refine x_iconst (v := 0) rfl ki_0 ?_
              refine x_putZ 12 14 rfl f_12_214 rfl (jfin_no TX12 RX12 92 rfl rfl) (congrArg Prod.fst (F.1 125 (12, 92) rfl rfl)) rfl (by decide) ?_
              refine x_aloadn (x := 125) rfl rfl ?_
              refine x_iconst (v := (-1)) rfl ki_m1 ?_
              refine x_putI 12 13 rfl f_12_32 rfl (jfin_no TX12 RX12 92 rfl rfl) (congrArg Prod.fst (F.1 125 (12, 92) rfl rfl)) rfl ?_
              refine x_aloadn (x := 125) rfl rfl ?_
              refine x_inv (N := m_X12_next) (As := []) (b := 125) (st := []) (d' := 98) (mc := 0) (ms := 0) (host := "") 12 rfl t_X12_next ⟨Or.inl q_12_218, i_X12_next.1, i_X12_next.2⟩ ⟨by decide, rfl⟩ (congrArg Prod.fst (F.1 125 (12, 92) rfl rfl)) rfl (by decide) rfl rfl ⟨by decide, by decide⟩ (jC.of rfl k_X12_next rfl ?_)
              show jX m_X12_next 98 0 0 0 [(0, .ref 125)] [] _ 0 0 _
              refine x_aloadn (x := 125) rfl rfl ?_
              refine x_aloadn (x := 125) rfl rfl ?_
              refine y_getI (v := 0) 12 10 rfl f_12_211 rfl (congrArg Prod.fst (F.1 125 (12, 92) rfl rfl)) rfl ?_
              refine x_putI 12 9 rfl f_12_221 rfl (jfin_no TX12 RX12 92 rfl rfl) (congrArg Prod.fst (F.1 125 (12, 92) rfl rfl)) rfl ?_
              refine x_aloadn (x := 125) rfl rfl ?_
              refine y_getI (v := 0) 12 9 rfl f_12_221 rfl (congrArg Prod.fst (F.1 125 (12, 92) rfl rfl)) rfl ?_
              refine x_aloadn (x := 125) rfl rfl ?_
              refine y_getI (v := 0) 12 8 rfl f_12_201 rfl (congrArg Prod.fst (F.1 125 (12, 92) rfl rfl)) (F.2.2.1 16008 0 rfl rfl) ?_
              refine x_icge (tgt := 46) rfl rfl (br_t (by decide) ?_)
              refine x_aloadn (x := 125) rfl rfl ?_
              refine x_aloadn (x := 125) rfl rfl ?_
              refine y_getI (v := 0) 12 9 rfl f_12_221 rfl (congrArg Prod.fst (F.1 125 (12, 92) rfl rfl)) rfl ?_
              refine x_putI 12 10 rfl f_12_211 rfl (jfin_no TX12 RX12 92 rfl rfl) (congrArg Prod.fst (F.1 125 (12, 92) rfl rfl)) rfl ?_
              refine x_aloadn (x := 125) rfl rfl ?_
              refine x_lconst (v := 0) rfl kl_0 ?_
              refine x_putL 12 12 rfl f_12_224 rfl (jfin_no TX12 RX12 92 rfl rfl) (congrArg Prod.fst (F.1 125 (12, 92) rfl rfl)) rfl ?_
              refine x_aloadn (x := 125) rfl rfl ?_
              refine x_aloadn (x := 125) rfl rfl ?_
              refine y_getI (v := 0) 12 9 rfl f_12_221 rfl (congrArg Prod.fst (F.1 125 (12, 92) rfl rfl)) rfl ?_
              refine x_aloadn (x := 125) rfl rfl ?_
              refine y_getI (v := 0) 12 8 rfl f_12_201 rfl (congrArg Prod.fst (F.1 125 (12, 92) rfl rfl)) (F.2.2.1 16008 0 rfl rfl) ?_
              refine x_icne (tgt := 75) rfl rfl (bn_f (by decide) ?_)
              refine x_iconst (v := 0) rfl ki_0 ?_
              refine x_goto (tgt := 114) rfl rfl ?_
              refine x_putI 12 11 rfl f_12_235 rfl (jfin_no TX12 RX12 92 rfl rfl) (congrArg Prod.fst (F.1 125 (12, 92) rfl rfl)) rfl ?_
              refine x_aloadn (x := 125) rfl rfl ?_
              refine y_getI (v := 0) 12 11 rfl f_12_235 rfl (congrArg Prod.fst (F.1 125 (12, 92) rfl rfl)) rfl ?_
              refine x_iconst (v := 3) rfl ki_3 ?_
              refine x_icne (tgt := 149) rfl rfl (bn_t (by decide) ?_)
              refine x_aloadn (x := 125) rfl rfl ?_
              refine y_getI (v := 0) 12 11 rfl f_12_235 rfl (congrArg Prod.fst (F.1 125 (12, 92) rfl rfl)) rfl ?_
              refine x_iconst (v := 1) rfl ki_1 ?_
              refine x_icne (tgt := 243) rfl rfl (bn_t (by decide) ?_)
              refine x_aloadn (x := 125) rfl rfl ?_
              refine y_getI (v := 0) 12 11 rfl f_12_235 rfl (congrArg Prod.fst (F.1 125 (12, 92) rfl rfl)) rfl ?_
              refine x_iconst (v := 2) rfl ki_2 ?_
              refine x_icne (tgt := 335) rfl rfl (bn_t (by decide) ?_)
              refine x_vret rfl rfl ?_
              show jX m_X12_begin 99 0 0 19 [(0, .ref 125)] [] _ 0 0 _
              refine x_vret rfl rfl ?_
              show jX m_X12_line 100 0 0 145 [(9, .int 90), (8, .int 20), (7, .int 0), (6, .int 1), (0, .ref 125), (1, .int a1), (2, .int a2), (3, .int a3), (4, .int a4), (5, .int a5)] [] _ 0 0 _
              refine x_iconst (v := 0) rfl ki_0 ?_
              refine x_istore (ls' := [(9, .int 0), (8, .int 20), (7, .int 0), (6, .int 1), (0, .ref 125), (1, .int a1), (2, .int a2), (3, .int a3), (4, .int a4), (5, .int a5)]) rfl rfl rfl ?_
              refine x_aloadn (x := 125) rfl rfl ?_
              refine y_getI (v := 0) 12 11 rfl f_12_235 rfl (congrArg Prod.fst (F.1 125 (12, 92) rfl rfl)) rfl ?_
              refine x_ifeq (tgt := 168) rfl rfl (br_t (by decide) ?_)
              refine x_iconst (v := 0) rfl ki_0 ?_
              refine x_istore (ls' := [(10, .int 0), (9, .int 0), (8, .int 20), (7, .int 0), (6, .int 1), (0, .ref 125), (1, .int a1), (2, .int a2), (3, .int a3), (4, .int a4), (5, .int a5)]) rfl rfl rfl ?_
              refine x_iload (x := 0) rfl rfl ?_
              refine x_ifeq (tgt := 250) rfl rfl (br_t (by decide) ?_)
              refine x_aloadn (x := 125) rfl rfl ?_
              refine y_getI (v := 0) 12 14 rfl f_12_214 rfl (congrArg Prod.fst (F.1 125 (12, 92) rfl rfl)) rfl ?_
              refine x_ifne (tgt := 268) rfl rfl (bn_f (by decide) ?_)
              refine x_aloadn (x := 125) rfl rfl ?_
              refine y_getI (v := 0) 12 11 rfl f_12_235 rfl (congrArg Prod.fst (F.1 125 (12, 92) rfl rfl)) rfl ?_
              refine x_ifeq (tgt := 268) rfl rfl (br_t (by decide) ?_)
              refine x_iconst (v := 0) rfl ki_0 ?_
              refine x_istore (ls' := [(11, .int 0), (10, .int 0), (9, .int 0), (8, .int 20), (7, .int 0), (6, .int 1), (0, .ref 125), (1, .int a1), (2, .int a2), (3, .int a3), (4, .int a4), (5, .int a5)]) rfl rfl rfl ?_
              refine x_iload (x := 0) rfl rfl ?_
              refine x_ifeq (tgt := 305) rfl rfl (br_t (by decide) ?_)
              refine x_aloadn (x := 125) rfl rfl ?_
              refine x_iconst (v := 0) rfl ki_0 ?_
              refine x_putI 12 8 rfl f_12_201 rfl (jfin_no TX12 RX12 92 rfl rfl) (congrArg Prod.fst (F.1 125 (12, 92) rfl rfl)) rfl ?_
              refine x_aloadn (x := 125) rfl rfl ?_
              refine y_getI (v := 0) 12 14 rfl f_12_214 rfl (congrArg Prod.fst (F.1 125 (12, 92) rfl rfl)) rfl ?_
              refine x_ifeq (tgt := 324) rfl rfl (br_t (by decide) ?_)
              refine x_aloadn (x := 125) rfl rfl ?_
              refine x_getR (b := 126) 12 2 rfl f_12_8 rfl (congrArg Prod.fst (F.1 125 (12, 92) rfl rfl)) (F.2.1 16002 126 rfl rfl) ?_
              refine x_iload (x := 20) rfl rfl ?_
              refine x_iloadn (x := a1) rfl rfl ?_
              refine y_iast (N := 50660) 20 rfl (F.1 126 (100, 50660) rfl rfl) rfl (jinb_of (by decide)) (by decide) ?_
              refine x_aloadn (x := 125) rfl rfl ?_
              refine x_getR (b := 126) 12 2 rfl f_12_8 rfl (congrArg Prod.fst (F.1 125 (12, 92) rfl rfl)) (F.2.1 16002 126 rfl rfl) ?_
              refine x_iload (x := 20) rfl rfl ?_
              refine x_iconst (v := 1) rfl ki_1 ?_
              refine y_iadd (v := 21) rfl (by decide) ?_
              refine x_iloadn (x := a2) rfl rfl ?_
              refine y_iast (N := 50660) 21 rfl (F.1 126 (100, 50660) rfl rfl) rfl (jinb_of (by decide)) (by decide) ?_
              refine x_aloadn (x := 125) rfl rfl ?_
              refine x_getR (b := 126) 12 2 rfl f_12_8 rfl (congrArg Prod.fst (F.1 125 (12, 92) rfl rfl)) (F.2.1 16002 126 rfl rfl) ?_
              refine x_iload (x := 20) rfl rfl ?_
              refine x_iconst (v := 2) rfl ki_2 ?_
              refine y_iadd (v := 22) rfl (by decide) ?_
              refine x_iloadn (x := a3) rfl rfl ?_
              refine y_iast (N := 50660) 22 rfl (F.1 126 (100, 50660) rfl rfl) rfl (jinb_of (by decide)) (by decide) ?_
              refine x_aloadn (x := 125) rfl rfl ?_
              refine x_getR (b := 126) 12 2 rfl f_12_8 rfl (congrArg Prod.fst (F.1 125 (12, 92) rfl rfl)) (F.2.1 16002 126 rfl rfl) ?_
              refine x_iload (x := 20) rfl rfl ?_
              refine x_iconst (v := 3) rfl ki_3 ?_
              refine y_iadd (v := 23) rfl (by decide) ?_
              refine x_iload (x := a4) rfl rfl ?_
              refine y_iast (N := 50660) 23 rfl (F.1 126 (100, 50660) rfl rfl) rfl (jinb_of (by decide)) (by decide) ?_
              refine x_aloadn (x := 125) rfl rfl ?_
              refine x_getR (b := 126) 12 2 rfl f_12_8 rfl (congrArg Prod.fst (F.1 125 (12, 92) rfl rfl)) (F.2.1 16002 126 rfl rfl) ?_
              refine x_iload (x := 20) rfl rfl ?_
              refine x_iconst (v := 4) rfl ki_4 ?_
              refine y_iadd (v := 24) rfl (by decide) ?_
              refine x_iload (x := a5) rfl rfl ?_
              refine y_iast (N := 50660) 24 rfl (F.1 126 (100, 50660) rfl rfl) rfl (jinb_of (by decide)) (by decide) ?_
              refine x_aloadn (x := 125) rfl rfl ?_
              refine x_getR (b := 126) 12 2 rfl f_12_8 rfl (congrArg Prod.fst (F.1 125 (12, 92) rfl rfl)) (F.2.1 16002 126 rfl rfl) ?_
              refine x_iload (x := 20) rfl rfl ?_
              refine x_iconst (v := 5) rfl ki_5 ?_
              refine y_iadd (v := 25) rfl (by decide) ?_
              refine x_iload (x := 0) rfl rfl ?_
              refine x_ifeq (tgt := 391) rfl rfl (br_t (by decide) ?_)
              refine x_iconst (v := 1) rfl ki_1 ?_
              refine y_iast (N := 50660) 25 rfl (F.1 126 (100, 50660) rfl rfl) rfl (jinb_of (by decide)) (by decide) ?_
              refine x_aloadn (x := 125) rfl rfl ?_
              refine x_getR (b := 126) 12 2 rfl f_12_8 rfl (congrArg Prod.fst (F.1 125 (12, 92) rfl rfl)) (F.2.1 16002 126 rfl rfl) ?_
              refine x_iconst (v := 0) rfl ki_0 ?_
              refine x_dup2 rfl rfl rfl ?_
              refine y_iald (v := 0) (N := 50660) 0 rfl (F.1 126 (100, 50660) rfl rfl) (jinb_of (by decide)) (by decide) (F.2.2.2.1 126 rfl rfl 0).1 ?_
              refine x_iconst (v := 1) rfl ki_1 ?_
              refine y_iadd (v := 1) rfl (by decide) ?_
              refine y_iast (N := 50660) 0 rfl (F.1 126 (100, 50660) rfl rfl) rfl (jinb_of (by decide)) (by decide) ?_
              refine x_aloadn (x := 125) rfl rfl ?_
              refine x_iconst (v := 0) rfl ki_0 ?_
              refine x_iload (x := 0) rfl rfl ?_
              refine x_inv (N := m_X12_thing) (As := [.int 0, .int 0]) (b := 125) (st := []) (d' := 99) (mc := 0) (ms := 0) (host := "") 12 rfl t_X12_thing ⟨Or.inl q_12_289, i_X12_thing.1, i_X12_thing.2⟩ ⟨by decide, rfl⟩ (congrArg Prod.fst (F.1 125 (12, 92) rfl rfl)) rfl (by decide) rfl rfl ⟨by decide, by decide⟩ (jC.of rfl k_X12_thing rfl ?_)
              show jX m_X12_thing 99 0 0 0 [(0, .ref 125), (1, .int 0), (2, .int 0)] [] _ 0 0 _
              refine x_ldc (v := 49920) rfl z_12_194 ?_
              refine x_iconst (v := 2) rfl ki_2 ?_
              refine x_aloadn (x := 125) rfl rfl ?_
              refine x_getR (b := 126) 12 2 rfl f_12_8 rfl (congrArg Prod.fst (F.1 125 (12, 92) rfl rfl)) (F.2.1 16002 126 rfl rfl) ?_
              refine x_bipush (v := 16) rfl kb_16 ?_
              refine y_iald (v := 0) (N := 50660) 16 rfl (F.1 126 (100, 50660) rfl rfl) (jinb_of (by decide)) (by decide) (F.2.2.2.1 126 rfl rfl 16).1 ?_
              refine y_imul (v := 0) rfl (by decide) ?_
              refine y_iadd (v := 49920) rfl (by decide) ?_
              refine x_istoren (ls' := [(3, .int 49920), (0, .ref 125), (1, .int 0), (2, .int 0)]) rfl rfl rfl ?_
              refine x_aloadn (x := 125) rfl rfl ?_
              refine x_getR (b := 126) 12 2 rfl f_12_8 rfl (congrArg Prod.fst (F.1 125 (12, 92) rfl rfl)) (F.2.1 16002 126 rfl rfl) ?_
              refine x_iloadn (x := 49920) rfl rfl ?_
              refine x_iloadn (x := 0) rfl rfl ?_
              refine y_iast (N := 50660) 49920 rfl (F.1 126 (100, 50660) rfl rfl) rfl (jinb_of (by decide)) (by decide) ?_
              refine x_aloadn (x := 125) rfl rfl ?_
              refine x_getR (b := 126) 12 2 rfl f_12_8 rfl (congrArg Prod.fst (F.1 125 (12, 92) rfl rfl)) (F.2.1 16002 126 rfl rfl) ?_
              refine x_iloadn (x := 49920) rfl rfl ?_
              refine x_iconst (v := 1) rfl ki_1 ?_
              refine y_iadd (v := 49921) rfl (by decide) ?_
              refine x_iloadn (x := 0) rfl rfl ?_
              refine y_iast (N := 50660) 49921 rfl (F.1 126 (100, 50660) rfl rfl) rfl (jinb_of (by decide)) (by decide) ?_
              refine x_aloadn (x := 125) rfl rfl ?_
              refine x_getR (b := 126) 12 2 rfl f_12_8 rfl (congrArg Prod.fst (F.1 125 (12, 92) rfl rfl)) (F.2.1 16002 126 rfl rfl) ?_
              refine x_bipush (v := 16) rfl kb_16 ?_
              refine x_dup2 rfl rfl rfl ?_
              refine y_iald (v := 0) (N := 50660) 16 rfl (F.1 126 (100, 50660) rfl rfl) (jinb_of (by decide)) (by decide) (F.2.2.2.1 126 rfl rfl 16).1 ?_
              refine x_iconst (v := 1) rfl ki_1 ?_
              refine y_iadd (v := 1) rfl (by decide) ?_
              refine y_iast (N := 50660) 16 rfl (F.1 126 (100, 50660) rfl rfl) rfl (jinb_of (by decide)) (by decide) ?_
              refine x_vret rfl rfl ?_
              show jX m_X12_line 100 0 0 410 [(11, .int 0), (10, .int 0), (9, .int 0), (8, .int 20), (7, .int 0), (6, .int 1), (0, .ref 125), (1, .int a1), (2, .int a2), (3, .int a3), (4, .int a4), (5, .int a5)] [] _ 0 0 _
              refine x_aloadn (x := 125) rfl rfl ?_
              refine x_iload (x := 0) rfl rfl ?_
              refine x_inv (N := m_X12_told) (As := [.int 0]) (b := 125) (st := []) (d' := 99) (mc := 0) (ms := 0) (host := "") 12 rfl t_X12_told ⟨Or.inl q_12_197, i_X12_told.1, i_X12_told.2⟩ ⟨by decide, rfl⟩ (congrArg Prod.fst (F.1 125 (12, 92) rfl rfl)) rfl (by decide) rfl rfl ⟨by decide, by decide⟩ (jC.of rfl k_X12_told rfl ?_)
              show jX m_X12_told 99 0 0 0 [(0, .ref 125), (1, .int 0)] [] _ 0 0 _
              refine x_aloadn (x := 125) rfl rfl ?_
              refine x_iloadn (x := 0) rfl rfl ?_
              refine x_ifge (tgt := 9) rfl rfl (br_t (by decide) ?_)
              refine x_iconst (v := 0) rfl ki_0 ?_
              refine x_putI 12 1 rfl f_12_183 rfl (jfin_no TX12 RX12 92 rfl rfl) (congrArg Prod.fst (F.1 125 (12, 92) rfl rfl)) rfl ?_
              refine x_iloadn (x := 0) rfl rfl ?_
              refine x_iret rfl rfl ?_
              show jX m_X12_line 100 0 0 416 [(11, .int 0), (10, .int 0), (9, .int 0), (8, .int 20), (7, .int 0), (6, .int 1), (0, .ref 125), (1, .int a1), (2, .int a2), (3, .int a3), (4, .int a4), (5, .int a5)] [.int 0] _ 0 0 _
              refine x_iret rfl rfl ?_
              exact jqe (show sp_line a1 a2 a3 a4 a5 = 0 by unfold sp_line; (repeat' split) <;> first | rfl | (exfalso; omega)) (hQ _ (by repeat (first | exact O | refine jOl_si rfl ?_ | refine jOl_sl rfl ?_ | refine jOl_ci rfl ?_ | refine jOl_cl rfl ?_ | refine jOl_sr rfl ?_)))
          by_cases c9 : a1.toInt = 4
          ·
            refine x_tableIn (tgt := 44) 4 rfl c9 (by decide) (by decide) rfl rfl ?_
            refine x_iloadn (x := a5) rfl rfl ?_
            refine x_i2l rfl ?_
            refine x_lconst (v := 0) rfl kl_0 ?_
            refine x_ldc2 (v := 100000) rfl z_12_265 ?_
            refine x_inst (N := m_X12_in) (As := [.long (a5.toInt64), .long 0, .long 100000]) (st := []) (d' := 98) (mc := 0) (ms := 0) (host := "") rfl t_X12_in ⟨Or.inl q_12_188, s_X12_in⟩ rfl (by decide) rfl rfl ⟨by decide, by decide⟩ (c_X12_in (jt_l _) (by decide) (by decide) ?_)
            show jX m_X12_isNumber 99 0 0 53 [(0, .int a1), (1, .int a5)] [.int (jp (0 ≤ a5.toInt ∧ a5.toInt ≤ 100000))] _ 0 0 _
            refine x_zret rfl rfl (by first | decide | exact jp_01 _) ?_
            show jX m_X12_line 100 0 0 50 [(0, .ref 125), (1, .int a1), (2, .int a2), (3, .int a3), (4, .int a4), (5, .int a5)] [.int (jp (0 ≤ a5.toInt ∧ a5.toInt ≤ 100000))] _ 0 0 _
            refine x_ifeq (tgt := 57) rfl rfl (jpe ⟨fun c10 => ?_, fun c10 => ?_⟩)
            ·
              refine x_iconst (v := 0) rfl ki_0 ?_
              refine x_istore (ls' := [(6, .int 0), (0, .ref 125), (1, .int a1), (2, .int a2), (3, .int a3), (4, .int a4), (5, .int a5)]) rfl rfl rfl ?_
              refine x_iload (x := 0) rfl rfl ?_
              refine x_ifeq (tgt := 77) rfl rfl (br_t (by decide) ?_)
              refine x_aloadn (x := 125) rfl rfl ?_
              refine x_iconst (v := 0) rfl ki_0 ?_
              refine x_putI 12 8 rfl f_12_201 rfl (jfin_no TX12 RX12 92 rfl rfl) (congrArg Prod.fst (F.1 125 (12, 92) rfl rfl)) rfl ?_
              refine x_aloadn (x := 125) rfl rfl ?_
              refine x_iload (x := 0) rfl rfl ?_
              refine x_ifeq (tgt := 93) rfl rfl (br_t (by decide) ?_)
              refine x_iconst (v := (-1)) rfl ki_m1 ?_
              refine x_inv (N := m_X12_told) (As := [.int (-1)]) (b := 125) (st := []) (d' := 99) (mc := 0) (ms := 0) (host := "") 12 rfl t_X12_told ⟨Or.inl q_12_197, i_X12_told.1, i_X12_told.2⟩ ⟨by decide, rfl⟩ (congrArg Prod.fst (F.1 125 (12, 92) rfl rfl)) rfl (by decide) rfl rfl ⟨by decide, by decide⟩ (jC.of rfl k_X12_told rfl ?_)
              show jX m_X12_told 99 0 0 0 [(0, .ref 125), (1, .int (-1))] [] _ 0 0 _
              refine x_aloadn (x := 125) rfl rfl ?_
              refine x_iloadn (x := (-1)) rfl rfl ?_
              refine x_ifge (tgt := 9) rfl rfl (br_f (by decide) ?_)
              refine x_iloadn (x := (-1)) rfl rfl ?_
              refine x_goto (tgt := 10) rfl rfl ?_
              refine x_putI 12 1 rfl f_12_183 rfl (jfin_no TX12 RX12 92 rfl rfl) (congrArg Prod.fst (F.1 125 (12, 92) rfl rfl)) rfl ?_
              refine x_iloadn (x := (-1)) rfl rfl ?_
              refine x_iret rfl rfl ?_
              show jX m_X12_line 100 0 0 97 [(6, .int 0), (0, .ref 125), (1, .int a1), (2, .int a2), (3, .int a3), (4, .int a4), (5, .int a5)] [.int (-1)] _ 0 0 _
              refine x_iret rfl rfl ?_
              exact jqe (show sp_line a1 a2 a3 a4 a5 = (-1) by unfold sp_line; (repeat' split) <;> first | rfl | (exfalso; omega)) (hQ _ (by repeat (first | exact O | refine jOl_si rfl ?_ | refine jOl_sl rfl ?_ | refine jOl_ci rfl ?_ | refine jOl_cl rfl ?_ | refine jOl_sr rfl ?_)))
            ·
              refine x_iconst (v := 1) rfl ki_1 ?_
              refine x_goto (tgt := 58) rfl rfl ?_
              refine x_istore (ls' := [(6, .int 1), (0, .ref 125), (1, .int a1), (2, .int a2), (3, .int a3), (4, .int a4), (5, .int a5)]) rfl rfl rfl ?_
              refine x_iload (x := 1) rfl rfl ?_
              refine x_ifeq (tgt := 77) rfl rfl (br_f (by decide) ?_)
              refine x_aloadn (x := 125) rfl rfl ?_
              refine x_getR (b := 126) 12 2 rfl f_12_8 rfl (congrArg Prod.fst (F.1 125 (12, 92) rfl rfl)) (F.2.1 16002 126 rfl rfl) ?_
              refine x_iconst (v := 0) rfl ki_0 ?_
              refine y_iald (v := 0) (N := 50660) 0 rfl (F.1 126 (100, 50660) rfl rfl) (jinb_of (by decide)) (by decide) (F.2.2.2.1 126 rfl rfl 0).1 ?_
              refine x_sipush (v := 200) rfl ks_200 ?_
              refine x_icne (tgt := 98) rfl rfl (bn_t (by decide) ?_)
              refine x_aloadn (x := 125) rfl rfl ?_
              refine x_getR (b := 126) 12 2 rfl f_12_8 rfl (congrArg Prod.fst (F.1 125 (12, 92) rfl rfl)) (F.2.1 16002 126 rfl rfl) ?_
              refine x_iconst (v := 0) rfl ki_0 ?_
              refine y_iald (v := 0) (N := 50660) 0 rfl (F.1 126 (100, 50660) rfl rfl) (jinb_of (by decide)) (by decide) (F.2.2.2.1 126 rfl rfl 0).1 ?_
              refine x_istore (ls' := [(7, .int 0), (6, .int 1), (0, .ref 125), (1, .int a1), (2, .int a2), (3, .int a3), (4, .int a4), (5, .int a5)]) rfl rfl rfl ?_
              refine x_aloadn (x := 125) rfl rfl ?_
              refine x_iload (x := 0) rfl rfl ?_
              refine x_inv (N := m_X12_at) (As := [.int 0]) (b := 125) (st := []) (d' := 99) (mc := 0) (ms := 0) (host := "") 12 rfl t_X12_at ⟨Or.inl q_12_254, i_X12_at.1, i_X12_at.2⟩ ⟨by decide, rfl⟩ (congrArg Prod.fst (F.1 125 (12, 92) rfl rfl)) rfl (by decide) rfl rfl ⟨by decide, by decide⟩ (jC.of rfl k_X12_at rfl ?_)
              show jX m_X12_at 99 0 0 0 [(0, .ref 125), (1, .int 0)] [] _ 0 0 _
              refine x_bipush (v := 20) rfl kb_20 ?_
              refine x_bipush (v := 90) rfl kb_90 ?_
              refine x_iloadn (x := 0) rfl rfl ?_
              refine y_imul (v := 0) rfl (by decide) ?_
              refine y_iadd (v := 20) rfl (by decide) ?_
              refine x_iret rfl rfl ?_
              show jX m_X12_line 100 0 0 112 [(7, .int 0), (6, .int 1), (0, .ref 125), (1, .int a1), (2, .int a2), (3, .int a3), (4, .int a4), (5, .int a5)] [.int 20] _ 0 0 _
              refine x_istore (ls' := [(8, .int 20), (7, .int 0), (6, .int 1), (0, .ref 125), (1, .int a1), (2, .int a2), (3, .int a3), (4, .int a4), (5, .int a5)]) rfl rfl rfl ?_
              refine x_iconst (v := 0) rfl ki_0 ?_
              refine x_istore (ls' := [(9, .int 0), (8, .int 20), (7, .int 0), (6, .int 1), (0, .ref 125), (1, .int a1), (2, .int a2), (3, .int a3), (4, .int a4), (5, .int a5)]) rfl rfl rfl ?_
              refine x_iload (x := 0) rfl rfl ?_
              refine x_bipush (v := 90) rfl kb_90 ?_
              refine x_icge (tgt := 141) rfl rfl (br_f (by decide) ?_)
              refine x_aloadn (x := 125) rfl rfl ?_
              refine x_getR (b := 126) 12 2 rfl f_12_8 rfl (congrArg Prod.fst (F.1 125 (12, 92) rfl rfl)) (F.2.1 16002 126 rfl rfl) ?_
              refine x_iload (x := 20) rfl rfl ?_
              refine x_iload (x := 0) rfl rfl ?_
              refine y_iadd (v := 20) rfl (by decide) ?_
              refine x_iconst (v := 0) rfl ki_0 ?_
              refine y_iast (N := 50660) 20 rfl (F.1 126 (100, 50660) rfl rfl) rfl (jinb_of (by decide)) (by decide) ?_
              refine x_iinc (x := 0) (v := 1) (ls' := [(9, .int 1), (8, .int 20), (7, .int 0), (6, .int 1), (0, .ref 125), (1, .int a1), (2, .int a2), (3, .int a3), (4, .int a4), (5, .int a5)]) rfl rfl (by decide) rfl rfl ?_
              refine x_goto (tgt := 117) rfl rfl ?_
              refine x_iload (x := 1) rfl rfl ?_
              refine x_bipush (v := 90) rfl kb_90 ?_
              refine x_icge (tgt := 141) rfl rfl (br_f (by decide) ?_)
              refine x_aloadn (x := 125) rfl rfl ?_
              refine x_getR (b := 126) 12 2 rfl f_12_8 rfl (congrArg Prod.fst (F.1 125 (12, 92) rfl rfl)) (F.2.1 16002 126 rfl rfl) ?_
              refine x_iload (x := 20) rfl rfl ?_
              refine x_iload (x := 1) rfl rfl ?_
              refine y_iadd (v := 21) rfl (by decide) ?_
              refine x_iconst (v := 0) rfl ki_0 ?_
              refine y_iast (N := 50660) 21 rfl (F.1 126 (100, 50660) rfl rfl) rfl (jinb_of (by decide)) (by decide) ?_
              refine x_iinc (x := 1) (v := 2) (ls' := [(9, .int 2), (8, .int 20), (7, .int 0), (6, .int 1), (0, .ref 125), (1, .int a1), (2, .int a2), (3, .int a3), (4, .int a4), (5, .int a5)]) rfl rfl (by decide) rfl rfl ?_
              refine x_goto (tgt := 117) rfl rfl ?_
              refine x_iload (x := 2) rfl rfl ?_
              refine x_bipush (v := 90) rfl kb_90 ?_
              refine x_icge (tgt := 141) rfl rfl (br_f (by decide) ?_)
              refine x_aloadn (x := 125) rfl rfl ?_
              refine x_getR (b := 126) 12 2 rfl f_12_8 rfl (congrArg Prod.fst (F.1 125 (12, 92) rfl rfl)) (F.2.1 16002 126 rfl rfl) ?_
              refine x_iload (x := 20) rfl rfl ?_
              refine x_iload (x := 2) rfl rfl ?_
              refine y_iadd (v := 22) rfl (by decide) ?_
              refine x_iconst (v := 0) rfl ki_0 ?_
              refine y_iast (N := 50660) 22 rfl (F.1 126 (100, 50660) rfl rfl) rfl (jinb_of (by decide)) (by decide) ?_
              refine x_iinc (x := 2) (v := 3) (ls' := [(9, .int 3), (8, .int 20), (7, .int 0), (6, .int 1), (0, .ref 125), (1, .int a1), (2, .int a2), (3, .int a3), (4, .int a4), (5, .int a5)]) rfl rfl (by decide) rfl rfl ?_
              refine x_goto (tgt := 117) rfl rfl ?_
              refine x_iload (x := 3) rfl rfl ?_
              refine x_bipush (v := 90) rfl kb_90 ?_
              refine x_icge (tgt := 141) rfl rfl (br_f (by decide) ?_)
              refine x_aloadn (x := 125) rfl rfl ?_
              refine x_getR (b := 126) 12 2 rfl f_12_8 rfl (congrArg Prod.fst (F.1 125 (12, 92) rfl rfl)) (F.2.1 16002 126 rfl rfl) ?_
              refine x_iload (x := 20) rfl rfl ?_
              refine x_iload (x := 3) rfl rfl ?_
              refine y_iadd (v := 23) rfl (by decide) ?_
              refine x_iconst (v := 0) rfl ki_0 ?_
              refine y_iast (N := 50660) 23 rfl (F.1 126 (100, 50660) rfl rfl) rfl (jinb_of (by decide)) (by decide) ?_
              refine x_iinc (x := 3) (v := 4) (ls' := [(9, .int 4), (8, .int 20), (7, .int 0), (6, .int 1), (0, .ref 125), (1, .int a1), (2, .int a2), (3, .int a3), (4, .int a4), (5, .int a5)]) rfl rfl (by decide) rfl rfl ?_
              refine x_goto (tgt := 117) rfl rfl ?_
              refine x_iload (x := 4) rfl rfl ?_
              refine x_bipush (v := 90) rfl kb_90 ?_
              refine x_icge (tgt := 141) rfl rfl (br_f (by decide) ?_)
              refine x_aloadn (x := 125) rfl rfl ?_
              refine x_getR (b := 126) 12 2 rfl f_12_8 rfl (congrArg Prod.fst (F.1 125 (12, 92) rfl rfl)) (F.2.1 16002 126 rfl rfl) ?_
              refine x_iload (x := 20) rfl rfl ?_
              refine x_iload (x := 4) rfl rfl ?_
              refine y_iadd (v := 24) rfl (by decide) ?_
              refine x_iconst (v := 0) rfl ki_0 ?_
              refine y_iast (N := 50660) 24 rfl (F.1 126 (100, 50660) rfl rfl) rfl (jinb_of (by decide)) (by decide) ?_
              refine x_iinc (x := 4) (v := 5) (ls' := [(9, .int 5), (8, .int 20), (7, .int 0), (6, .int 1), (0, .ref 125), (1, .int a1), (2, .int a2), (3, .int a3), (4, .int a4), (5, .int a5)]) rfl rfl (by decide) rfl rfl ?_
              refine x_goto (tgt := 117) rfl rfl ?_
              refine x_iload (x := 5) rfl rfl ?_
              refine x_bipush (v := 90) rfl kb_90 ?_
              refine x_icge (tgt := 141) rfl rfl (br_f (by decide) ?_)
              refine x_aloadn (x := 125) rfl rfl ?_
              refine x_getR (b := 126) 12 2 rfl f_12_8 rfl (congrArg Prod.fst (F.1 125 (12, 92) rfl rfl)) (F.2.1 16002 126 rfl rfl) ?_
              refine x_iload (x := 20) rfl rfl ?_
              refine x_iload (x := 5) rfl rfl ?_
              refine y_iadd (v := 25) rfl (by decide) ?_
              refine x_iconst (v := 0) rfl ki_0 ?_
              refine y_iast (N := 50660) 25 rfl (F.1 126 (100, 50660) rfl rfl) rfl (jinb_of (by decide)) (by decide) ?_
              refine x_iinc (x := 5) (v := 6) (ls' := [(9, .int 6), (8, .int 20), (7, .int 0), (6, .int 1), (0, .ref 125), (1, .int a1), (2, .int a2), (3, .int a3), (4, .int a4), (5, .int a5)]) rfl rfl (by decide) rfl rfl ?_
              refine x_goto (tgt := 117) rfl rfl ?_
              refine x_iload (x := 6) rfl rfl ?_
              refine x_bipush (v := 90) rfl kb_90 ?_
              refine x_icge (tgt := 141) rfl rfl (br_f (by decide) ?_)
              refine x_aloadn (x := 125) rfl rfl ?_
              refine x_getR (b := 126) 12 2 rfl f_12_8 rfl (congrArg Prod.fst (F.1 125 (12, 92) rfl rfl)) (F.2.1 16002 126 rfl rfl) ?_
              refine x_iload (x := 20) rfl rfl ?_
              refine x_iload (x := 6) rfl rfl ?_
              refine y_iadd (v := 26) rfl (by decide) ?_
              refine x_iconst (v := 0) rfl ki_0 ?_
              refine y_iast (N := 50660) 26 rfl (F.1 126 (100, 50660) rfl rfl) rfl (jinb_of (by decide)) (by decide) ?_
              refine x_iinc (x := 6) (v := 7) (ls' := [(9, .int 7), (8, .int 20), (7, .int 0), (6, .int 1), (0, .ref 125), (1, .int a1), (2, .int a2), (3, .int a3), (4, .int a4), (5, .int a5)]) rfl rfl (by decide) rfl rfl ?_
              refine x_goto (tgt := 117) rfl rfl ?_
              refine x_iload (x := 7) rfl rfl ?_
              refine x_bipush (v := 90) rfl kb_90 ?_
              refine x_icge (tgt := 141) rfl rfl (br_f (by decide) ?_)
              refine x_aloadn (x := 125) rfl rfl ?_
              refine x_getR (b := 126) 12 2 rfl f_12_8 rfl (congrArg Prod.fst (F.1 125 (12, 92) rfl rfl)) (F.2.1 16002 126 rfl rfl) ?_
              refine x_iload (x := 20) rfl rfl ?_
              refine x_iload (x := 7) rfl rfl ?_
              refine y_iadd (v := 27) rfl (by decide) ?_
              refine x_iconst (v := 0) rfl ki_0 ?_
              refine y_iast (N := 50660) 27 rfl (F.1 126 (100, 50660) rfl rfl) rfl (jinb_of (by decide)) (by decide) ?_
              refine x_iinc (x := 7) (v := 8) (ls' := [(9, .int 8), (8, .int 20), (7, .int 0), (6, .int 1), (0, .ref 125), (1, .int a1), (2, .int a2), (3, .int a3), (4, .int a4), (5, .int a5)]) rfl rfl (by decide) rfl rfl ?_
              refine x_goto (tgt := 117) rfl rfl ?_
              refine x_iload (x := 8) rfl rfl ?_
              refine x_bipush (v := 90) rfl kb_90 ?_
              refine x_icge (tgt := 141) rfl rfl (br_f (by decide) ?_)
              refine x_aloadn (x := 125) rfl rfl ?_
              refine x_getR (b := 126) 12 2 rfl f_12_8 rfl (congrArg Prod.fst (F.1 125 (12, 92) rfl rfl)) (F.2.1 16002 126 rfl rfl) ?_
              refine x_iload (x := 20) rfl rfl ?_
              refine x_iload (x := 8) rfl rfl ?_
              refine y_iadd (v := 28) rfl (by decide) ?_
              refine x_iconst (v := 0) rfl ki_0 ?_
              refine y_iast (N := 50660) 28 rfl (F.1 126 (100, 50660) rfl rfl) rfl (jinb_of (by decide)) (by decide) ?_
              refine x_iinc (x := 8) (v := 9) (ls' := [(9, .int 9), (8, .int 20), (7, .int 0), (6, .int 1), (0, .ref 125), (1, .int a1), (2, .int a2), (3, .int a3), (4, .int a4), (5, .int a5)]) rfl rfl (by decide) rfl rfl ?_
              refine x_goto (tgt := 117) rfl rfl ?_
              refine x_iload (x := 9) rfl rfl ?_
              refine x_bipush (v := 90) rfl kb_90 ?_
              refine x_icge (tgt := 141) rfl rfl (br_f (by decide) ?_)
              refine x_aloadn (x := 125) rfl rfl ?_
              refine x_getR (b := 126) 12 2 rfl f_12_8 rfl (congrArg Prod.fst (F.1 125 (12, 92) rfl rfl)) (F.2.1 16002 126 rfl rfl) ?_
              refine x_iload (x := 20) rfl rfl ?_
              refine x_iload (x := 9) rfl rfl ?_
              refine y_iadd (v := 29) rfl (by decide) ?_
              refine x_iconst (v := 0) rfl ki_0 ?_
              refine y_iast (N := 50660) 29 rfl (F.1 126 (100, 50660) rfl rfl) rfl (jinb_of (by decide)) (by decide) ?_
              refine x_iinc (x := 9) (v := 10) (ls' := [(9, .int 10), (8, .int 20), (7, .int 0), (6, .int 1), (0, .ref 125), (1, .int a1), (2, .int a2), (3, .int a3), (4, .int a4), (5, .int a5)]) rfl rfl (by decide) rfl rfl ?_
              refine x_goto (tgt := 117) rfl rfl ?_
              refine x_iload (x := 10) rfl rfl ?_
              refine x_bipush (v := 90) rfl kb_90 ?_
              refine x_icge (tgt := 141) rfl rfl (br_f (by decide) ?_)
              refine x_aloadn (x := 125) rfl rfl ?_
              refine x_getR (b := 126) 12 2 rfl f_12_8 rfl (congrArg Prod.fst (F.1 125 (12, 92) rfl rfl)) (F.2.1 16002 126 rfl rfl) ?_
              refine x_iload (x := 20) rfl rfl ?_
              refine x_iload (x := 10) rfl rfl ?_
              refine y_iadd (v := 30) rfl (by decide) ?_
              refine x_iconst (v := 0) rfl ki_0 ?_
              refine y_iast (N := 50660) 30 rfl (F.1 126 (100, 50660) rfl rfl) rfl (jinb_of (by decide)) (by decide) ?_
              refine x_iinc (x := 10) (v := 11) (ls' := [(9, .int 11), (8, .int 20), (7, .int 0), (6, .int 1), (0, .ref 125), (1, .int a1), (2, .int a2), (3, .int a3), (4, .int a4), (5, .int a5)]) rfl rfl (by decide) rfl rfl ?_
              refine x_goto (tgt := 117) rfl rfl ?_
              refine x_iload (x := 11) rfl rfl ?_
              refine x_bipush (v := 90) rfl kb_90 ?_
              refine x_icge (tgt := 141) rfl rfl (br_f (by decide) ?_)
              refine x_aloadn (x := 125) rfl rfl ?_
              refine x_getR (b := 126) 12 2 rfl f_12_8 rfl (congrArg Prod.fst (F.1 125 (12, 92) rfl rfl)) (F.2.1 16002 126 rfl rfl) ?_
              refine x_iload (x := 20) rfl rfl ?_
              refine x_iload (x := 11) rfl rfl ?_
              refine y_iadd (v := 31) rfl (by decide) ?_
              refine x_iconst (v := 0) rfl ki_0 ?_
              refine y_iast (N := 50660) 31 rfl (F.1 126 (100, 50660) rfl rfl) rfl (jinb_of (by decide)) (by decide) ?_
              refine x_iinc (x := 11) (v := 12) (ls' := [(9, .int 12), (8, .int 20), (7, .int 0), (6, .int 1), (0, .ref 125), (1, .int a1), (2, .int a2), (3, .int a3), (4, .int a4), (5, .int a5)]) rfl rfl (by decide) rfl rfl ?_
              refine x_goto (tgt := 117) rfl rfl ?_
              refine x_iload (x := 12) rfl rfl ?_
              refine x_bipush (v := 90) rfl kb_90 ?_
              refine x_icge (tgt := 141) rfl rfl (br_f (by decide) ?_)
              refine x_aloadn (x := 125) rfl rfl ?_
              refine x_getR (b := 126) 12 2 rfl f_12_8 rfl (congrArg Prod.fst (F.1 125 (12, 92) rfl rfl)) (F.2.1 16002 126 rfl rfl) ?_
              refine x_iload (x := 20) rfl rfl ?_
              refine x_iload (x := 12) rfl rfl ?_
              refine y_iadd (v := 32) rfl (by decide) ?_
              refine x_iconst (v := 0) rfl ki_0 ?_
              refine y_iast (N := 50660) 32 rfl (F.1 126 (100, 50660) rfl rfl) rfl (jinb_of (by decide)) (by decide) ?_
              refine x_iinc (x := 12) (v := 13) (ls' := [(9, .int 13), (8, .int 20), (7, .int 0), (6, .int 1), (0, .ref 125), (1, .int a1), (2, .int a2), (3, .int a3), (4, .int a4), (5, .int a5)]) rfl rfl (by decide) rfl rfl ?_
              refine x_goto (tgt := 117) rfl rfl ?_
              refine x_iload (x := 13) rfl rfl ?_
              refine x_bipush (v := 90) rfl kb_90 ?_
              refine x_icge (tgt := 141) rfl rfl (br_f (by decide) ?_)
              refine x_aloadn (x := 125) rfl rfl ?_
              refine x_getR (b := 126) 12 2 rfl f_12_8 rfl (congrArg Prod.fst (F.1 125 (12, 92) rfl rfl)) (F.2.1 16002 126 rfl rfl) ?_
              refine x_iload (x := 20) rfl rfl ?_
              refine x_iload (x := 13) rfl rfl ?_
              refine y_iadd (v := 33) rfl (by decide) ?_
              refine x_iconst (v := 0) rfl ki_0 ?_
              refine y_iast (N := 50660) 33 rfl (F.1 126 (100, 50660) rfl rfl) rfl (jinb_of (by decide)) (by decide) ?_
              refine x_iinc (x := 13) (v := 14) (ls' := [(9, .int 14), (8, .int 20), (7, .int 0), (6, .int 1), (0, .ref 125), (1, .int a1), (2, .int a2), (3, .int a3), (4, .int a4), (5, .int a5)]) rfl rfl (by decide) rfl rfl ?_
              refine x_goto (tgt := 117) rfl rfl ?_
              refine x_iload (x := 14) rfl rfl ?_
              refine x_bipush (v := 90) rfl kb_90 ?_
              refine x_icge (tgt := 141) rfl rfl (br_f (by decide) ?_)
              refine x_aloadn (x := 125) rfl rfl ?_
              refine x_getR (b := 126) 12 2 rfl f_12_8 rfl (congrArg Prod.fst (F.1 125 (12, 92) rfl rfl)) (F.2.1 16002 126 rfl rfl) ?_
              refine x_iload (x := 20) rfl rfl ?_
              refine x_iload (x := 14) rfl rfl ?_
              refine y_iadd (v := 34) rfl (by decide) ?_
              refine x_iconst (v := 0) rfl ki_0 ?_
              refine y_iast (N := 50660) 34 rfl (F.1 126 (100, 50660) rfl rfl) rfl (jinb_of (by decide)) (by decide) ?_
              refine x_iinc (x := 14) (v := 15) (ls' := [(9, .int 15), (8, .int 20), (7, .int 0), (6, .int 1), (0, .ref 125), (1, .int a1), (2, .int a2), (3, .int a3), (4, .int a4), (5, .int a5)]) rfl rfl (by decide) rfl rfl ?_
              refine x_goto (tgt := 117) rfl rfl ?_
              refine x_iload (x := 15) rfl rfl ?_
              refine x_bipush (v := 90) rfl kb_90 ?_
              refine x_icge (tgt := 141) rfl rfl (br_f (by decide) ?_)
              refine x_aloadn (x := 125) rfl rfl ?_
              refine x_getR (b := 126) 12 2 rfl f_12_8 rfl (congrArg Prod.fst (F.1 125 (12, 92) rfl rfl)) (F.2.1 16002 126 rfl rfl) ?_
              refine x_iload (x := 20) rfl rfl ?_
              refine x_iload (x := 15) rfl rfl ?_
              refine y_iadd (v := 35) rfl (by decide) ?_
              refine x_iconst (v := 0) rfl ki_0 ?_
              refine y_iast (N := 50660) 35 rfl (F.1 126 (100, 50660) rfl rfl) rfl (jinb_of (by decide)) (by decide) ?_
              refine x_iinc (x := 15) (v := 16) (ls' := [(9, .int 16), (8, .int 20), (7, .int 0), (6, .int 1), (0, .ref 125), (1, .int a1), (2, .int a2), (3, .int a3), (4, .int a4), (5, .int a5)]) rfl rfl (by decide) rfl rfl ?_
              refine x_goto (tgt := 117) rfl rfl ?_
              refine x_iload (x := 16) rfl rfl ?_
              refine x_bipush (v := 90) rfl kb_90 ?_
              refine x_icge (tgt := 141) rfl rfl (br_f (by decide) ?_)
              refine x_aloadn (x := 125) rfl rfl ?_
              refine x_getR (b := 126) 12 2 rfl f_12_8 rfl (congrArg Prod.fst (F.1 125 (12, 92) rfl rfl)) (F.2.1 16002 126 rfl rfl) ?_
              refine x_iload (x := 20) rfl rfl ?_
              refine x_iload (x := 16) rfl rfl ?_
              refine y_iadd (v := 36) rfl (by decide) ?_
              refine x_iconst (v := 0) rfl ki_0 ?_
              refine y_iast (N := 50660) 36 rfl (F.1 126 (100, 50660) rfl rfl) rfl (jinb_of (by decide)) (by decide) ?_
              refine x_iinc (x := 16) (v := 17) (ls' := [(9, .int 17), (8, .int 20), (7, .int 0), (6, .int 1), (0, .ref 125), (1, .int a1), (2, .int a2), (3, .int a3), (4, .int a4), (5, .int a5)]) rfl rfl (by decide) rfl rfl ?_
              refine x_goto (tgt := 117) rfl rfl ?_
              refine x_iload (x := 17) rfl rfl ?_
              refine x_bipush (v := 90) rfl kb_90 ?_
              refine x_icge (tgt := 141) rfl rfl (br_f (by decide) ?_)
              refine x_aloadn (x := 125) rfl rfl ?_
              refine x_getR (b := 126) 12 2 rfl f_12_8 rfl (congrArg Prod.fst (F.1 125 (12, 92) rfl rfl)) (F.2.1 16002 126 rfl rfl) ?_
              refine x_iload (x := 20) rfl rfl ?_
              refine x_iload (x := 17) rfl rfl ?_
              refine y_iadd (v := 37) rfl (by decide) ?_
              refine x_iconst (v := 0) rfl ki_0 ?_
              refine y_iast (N := 50660) 37 rfl (F.1 126 (100, 50660) rfl rfl) rfl (jinb_of (by decide)) (by decide) ?_
              refine x_iinc (x := 17) (v := 18) (ls' := [(9, .int 18), (8, .int 20), (7, .int 0), (6, .int 1), (0, .ref 125), (1, .int a1), (2, .int a2), (3, .int a3), (4, .int a4), (5, .int a5)]) rfl rfl (by decide) rfl rfl ?_
              refine x_goto (tgt := 117) rfl rfl ?_
              refine x_iload (x := 18) rfl rfl ?_
              refine x_bipush (v := 90) rfl kb_90 ?_
              refine x_icge (tgt := 141) rfl rfl (br_f (by decide) ?_)
              refine x_aloadn (x := 125) rfl rfl ?_
              refine x_getR (b := 126) 12 2 rfl f_12_8 rfl (congrArg Prod.fst (F.1 125 (12, 92) rfl rfl)) (F.2.1 16002 126 rfl rfl) ?_
              refine x_iload (x := 20) rfl rfl ?_
              refine x_iload (x := 18) rfl rfl ?_
              refine y_iadd (v := 38) rfl (by decide) ?_
              refine x_iconst (v := 0) rfl ki_0 ?_
              refine y_iast (N := 50660) 38 rfl (F.1 126 (100, 50660) rfl rfl) rfl (jinb_of (by decide)) (by decide) ?_
              refine x_iinc (x := 18) (v := 19) (ls' := [(9, .int 19), (8, .int 20), (7, .int 0), (6, .int 1), (0, .ref 125), (1, .int a1), (2, .int a2), (3, .int a3), (4, .int a4), (5, .int a5)]) rfl rfl (by decide) rfl rfl ?_
              refine x_goto (tgt := 117) rfl rfl ?_
              refine x_iload (x := 19) rfl rfl ?_
              refine x_bipush (v := 90) rfl kb_90 ?_
              refine x_icge (tgt := 141) rfl rfl (br_f (by decide) ?_)
              refine x_aloadn (x := 125) rfl rfl ?_
              refine x_getR (b := 126) 12 2 rfl f_12_8 rfl (congrArg Prod.fst (F.1 125 (12, 92) rfl rfl)) (F.2.1 16002 126 rfl rfl) ?_
              refine x_iload (x := 20) rfl rfl ?_
              refine x_iload (x := 19) rfl rfl ?_
              refine y_iadd (v := 39) rfl (by decide) ?_
              refine x_iconst (v := 0) rfl ki_0 ?_
              refine y_iast (N := 50660) 39 rfl (F.1 126 (100, 50660) rfl rfl) rfl (jinb_of (by decide)) (by decide) ?_
              refine x_iinc (x := 19) (v := 20) (ls' := [(9, .int 20), (8, .int 20), (7, .int 0), (6, .int 1), (0, .ref 125), (1, .int a1), (2, .int a2), (3, .int a3), (4, .int a4), (5, .int a5)]) rfl rfl (by decide) rfl rfl ?_
              refine x_goto (tgt := 117) rfl rfl ?_
              refine x_iload (x := 20) rfl rfl ?_
              refine x_bipush (v := 90) rfl kb_90 ?_
              refine x_icge (tgt := 141) rfl rfl (br_f (by decide) ?_)
              refine x_aloadn (x := 125) rfl rfl ?_
              refine x_getR (b := 126) 12 2 rfl f_12_8 rfl (congrArg Prod.fst (F.1 125 (12, 92) rfl rfl)) (F.2.1 16002 126 rfl rfl) ?_
              refine x_iload (x := 20) rfl rfl ?_
              refine x_iload (x := 20) rfl rfl ?_
              refine y_iadd (v := 40) rfl (by decide) ?_
              refine x_iconst (v := 0) rfl ki_0 ?_
              refine y_iast (N := 50660) 40 rfl (F.1 126 (100, 50660) rfl rfl) rfl (jinb_of (by decide)) (by decide) ?_
              refine x_iinc (x := 20) (v := 21) (ls' := [(9, .int 21), (8, .int 20), (7, .int 0), (6, .int 1), (0, .ref 125), (1, .int a1), (2, .int a2), (3, .int a3), (4, .int a4), (5, .int a5)]) rfl rfl (by decide) rfl rfl ?_
              refine x_goto (tgt := 117) rfl rfl ?_
              refine x_iload (x := 21) rfl rfl ?_
              refine x_bipush (v := 90) rfl kb_90 ?_
              refine x_icge (tgt := 141) rfl rfl (br_f (by decide) ?_)
              refine x_aloadn (x := 125) rfl rfl ?_
              refine x_getR (b := 126) 12 2 rfl f_12_8 rfl (congrArg Prod.fst (F.1 125 (12, 92) rfl rfl)) (F.2.1 16002 126 rfl rfl) ?_
              refine x_iload (x := 20) rfl rfl ?_
              refine x_iload (x := 21) rfl rfl ?_
              refine y_iadd (v := 41) rfl (by decide) ?_
              refine x_iconst (v := 0) rfl ki_0 ?_
              refine y_iast (N := 50660) 41 rfl (F.1 126 (100, 50660) rfl rfl) rfl (jinb_of (by decide)) (by decide) ?_
              refine x_iinc (x := 21) (v := 22) (ls' := [(9, .int 22), (8, .int 20), (7, .int 0), (6, .int 1), (0, .ref 125), (1, .int a1), (2, .int a2), (3, .int a3), (4, .int a4), (5, .int a5)]) rfl rfl (by decide) rfl rfl ?_
              refine x_goto (tgt := 117) rfl rfl ?_
              refine x_iload (x := 22) rfl rfl ?_
              refine x_bipush (v := 90) rfl kb_90 ?_
              refine x_icge (tgt := 141) rfl rfl (br_f (by decide) ?_)
              refine x_aloadn (x := 125) rfl rfl ?_
              refine x_getR (b := 126) 12 2 rfl f_12_8 rfl (congrArg Prod.fst (F.1 125 (12, 92) rfl rfl)) (F.2.1 16002 126 rfl rfl) ?_
              refine x_iload (x := 20) rfl rfl ?_
              refine x_iload (x := 22) rfl rfl ?_
              refine y_iadd (v := 42) rfl (by decide) ?_
              refine x_iconst (v := 0) rfl ki_0 ?_
              refine y_iast (N := 50660) 42 rfl (F.1 126 (100, 50660) rfl rfl) rfl (jinb_of (by decide)) (by decide) ?_
              refine x_iinc (x := 22) (v := 23) (ls' := [(9, .int 23), (8, .int 20), (7, .int 0), (6, .int 1), (0, .ref 125), (1, .int a1), (2, .int a2), (3, .int a3), (4, .int a4), (5, .int a5)]) rfl rfl (by decide) rfl rfl ?_
              refine x_goto (tgt := 117) rfl rfl ?_
              refine x_iload (x := 23) rfl rfl ?_
              refine x_bipush (v := 90) rfl kb_90 ?_
              refine x_icge (tgt := 141) rfl rfl (br_f (by decide) ?_)
              refine x_aloadn (x := 125) rfl rfl ?_
              refine x_getR (b := 126) 12 2 rfl f_12_8 rfl (congrArg Prod.fst (F.1 125 (12, 92) rfl rfl)) (F.2.1 16002 126 rfl rfl) ?_
              refine x_iload (x := 20) rfl rfl ?_
              refine x_iload (x := 23) rfl rfl ?_
              refine y_iadd (v := 43) rfl (by decide) ?_
              refine x_iconst (v := 0) rfl ki_0 ?_
              refine y_iast (N := 50660) 43 rfl (F.1 126 (100, 50660) rfl rfl) rfl (jinb_of (by decide)) (by decide) ?_
              refine x_iinc (x := 23) (v := 24) (ls' := [(9, .int 24), (8, .int 20), (7, .int 0), (6, .int 1), (0, .ref 125), (1, .int a1), (2, .int a2), (3, .int a3), (4, .int a4), (5, .int a5)]) rfl rfl (by decide) rfl rfl ?_
              refine x_goto (tgt := 117) rfl rfl ?_
              refine x_iload (x := 24) rfl rfl ?_
              refine x_bipush (v := 90) rfl kb_90 ?_
              refine x_icge (tgt := 141) rfl rfl (br_f (by decide) ?_)
              refine x_aloadn (x := 125) rfl rfl ?_
              refine x_getR (b := 126) 12 2 rfl f_12_8 rfl (congrArg Prod.fst (F.1 125 (12, 92) rfl rfl)) (F.2.1 16002 126 rfl rfl) ?_
              refine x_iload (x := 20) rfl rfl ?_
              refine x_iload (x := 24) rfl rfl ?_
              refine y_iadd (v := 44) rfl (by decide) ?_
              refine x_iconst (v := 0) rfl ki_0 ?_
              refine y_iast (N := 50660) 44 rfl (F.1 126 (100, 50660) rfl rfl) rfl (jinb_of (by decide)) (by decide) ?_
              refine x_iinc (x := 24) (v := 25) (ls' := [(9, .int 25), (8, .int 20), (7, .int 0), (6, .int 1), (0, .ref 125), (1, .int a1), (2, .int a2), (3, .int a3), (4, .int a4), (5, .int a5)]) rfl rfl (by decide) rfl rfl ?_
              refine x_goto (tgt := 117) rfl rfl ?_
              refine x_iload (x := 25) rfl rfl ?_
              refine x_bipush (v := 90) rfl kb_90 ?_
              refine x_icge (tgt := 141) rfl rfl (br_f (by decide) ?_)
              refine x_aloadn (x := 125) rfl rfl ?_
              refine x_getR (b := 126) 12 2 rfl f_12_8 rfl (congrArg Prod.fst (F.1 125 (12, 92) rfl rfl)) (F.2.1 16002 126 rfl rfl) ?_
              refine x_iload (x := 20) rfl rfl ?_
              refine x_iload (x := 25) rfl rfl ?_
              refine y_iadd (v := 45) rfl (by decide) ?_
              refine x_iconst (v := 0) rfl ki_0 ?_
              refine y_iast (N := 50660) 45 rfl (F.1 126 (100, 50660) rfl rfl) rfl (jinb_of (by decide)) (by decide) ?_
              refine x_iinc (x := 25) (v := 26) (ls' := [(9, .int 26), (8, .int 20), (7, .int 0), (6, .int 1), (0, .ref 125), (1, .int a1), (2, .int a2), (3, .int a3), (4, .int a4), (5, .int a5)]) rfl rfl (by decide) rfl rfl ?_
              refine x_goto (tgt := 117) rfl rfl ?_
              refine x_iload (x := 26) rfl rfl ?_
              refine x_bipush (v := 90) rfl kb_90 ?_
              refine x_icge (tgt := 141) rfl rfl (br_f (by decide) ?_)
              refine x_aloadn (x := 125) rfl rfl ?_
              refine x_getR (b := 126) 12 2 rfl f_12_8 rfl (congrArg Prod.fst (F.1 125 (12, 92) rfl rfl)) (F.2.1 16002 126 rfl rfl) ?_
              refine x_iload (x := 20) rfl rfl ?_
              refine x_iload (x := 26) rfl rfl ?_
              refine y_iadd (v := 46) rfl (by decide) ?_
              refine x_iconst (v := 0) rfl ki_0 ?_
              refine y_iast (N := 50660) 46 rfl (F.1 126 (100, 50660) rfl rfl) rfl (jinb_of (by decide)) (by decide) ?_
              refine x_iinc (x := 26) (v := 27) (ls' := [(9, .int 27), (8, .int 20), (7, .int 0), (6, .int 1), (0, .ref 125), (1, .int a1), (2, .int a2), (3, .int a3), (4, .int a4), (5, .int a5)]) rfl rfl (by decide) rfl rfl ?_
              refine x_goto (tgt := 117) rfl rfl ?_
              refine x_iload (x := 27) rfl rfl ?_
              refine x_bipush (v := 90) rfl kb_90 ?_
              refine x_icge (tgt := 141) rfl rfl (br_f (by decide) ?_)
              refine x_aloadn (x := 125) rfl rfl ?_
              refine x_getR (b := 126) 12 2 rfl f_12_8 rfl (congrArg Prod.fst (F.1 125 (12, 92) rfl rfl)) (F.2.1 16002 126 rfl rfl) ?_
              refine x_iload (x := 20) rfl rfl ?_
              refine x_iload (x := 27) rfl rfl ?_
              refine y_iadd (v := 47) rfl (by decide) ?_
              refine x_iconst (v := 0) rfl ki_0 ?_
              refine y_iast (N := 50660) 47 rfl (F.1 126 (100, 50660) rfl rfl) rfl (jinb_of (by decide)) (by decide) ?_
              refine x_iinc (x := 27) (v := 28) (ls' := [(9, .int 28), (8, .int 20), (7, .int 0), (6, .int 1), (0, .ref 125), (1, .int a1), (2, .int a2), (3, .int a3), (4, .int a4), (5, .int a5)]) rfl rfl (by decide) rfl rfl ?_
              refine x_goto (tgt := 117) rfl rfl ?_
              refine x_iload (x := 28) rfl rfl ?_
              refine x_bipush (v := 90) rfl kb_90 ?_
              refine x_icge (tgt := 141) rfl rfl (br_f (by decide) ?_)
              refine x_aloadn (x := 125) rfl rfl ?_
              refine x_getR (b := 126) 12 2 rfl f_12_8 rfl (congrArg Prod.fst (F.1 125 (12, 92) rfl rfl)) (F.2.1 16002 126 rfl rfl) ?_
              refine x_iload (x := 20) rfl rfl ?_
              refine x_iload (x := 28) rfl rfl ?_
              refine y_iadd (v := 48) rfl (by decide) ?_
              refine x_iconst (v := 0) rfl ki_0 ?_
              refine y_iast (N := 50660) 48 rfl (F.1 126 (100, 50660) rfl rfl) rfl (jinb_of (by decide)) (by decide) ?_
              refine x_iinc (x := 28) (v := 29) (ls' := [(9, .int 29), (8, .int 20), (7, .int 0), (6, .int 1), (0, .ref 125), (1, .int a1), (2, .int a2), (3, .int a3), (4, .int a4), (5, .int a5)]) rfl rfl (by decide) rfl rfl ?_
              refine x_goto (tgt := 117) rfl rfl ?_
              refine x_iload (x := 29) rfl rfl ?_
              refine x_bipush (v := 90) rfl kb_90 ?_
              refine x_icge (tgt := 141) rfl rfl (br_f (by decide) ?_)
              refine x_aloadn (x := 125) rfl rfl ?_
              refine x_getR (b := 126) 12 2 rfl f_12_8 rfl (congrArg Prod.fst (F.1 125 (12, 92) rfl rfl)) (F.2.1 16002 126 rfl rfl) ?_
              refine x_iload (x := 20) rfl rfl ?_
              refine x_iload (x := 29) rfl rfl ?_
              refine y_iadd (v := 49) rfl (by decide) ?_
              refine x_iconst (v := 0) rfl ki_0 ?_
              refine y_iast (N := 50660) 49 rfl (F.1 126 (100, 50660) rfl rfl) rfl (jinb_of (by decide)) (by decide) ?_
              refine x_iinc (x := 29) (v := 30) (ls' := [(9, .int 30), (8, .int 20), (7, .int 0), (6, .int 1), (0, .ref 125), (1, .int a1), (2, .int a2), (3, .int a3), (4, .int a4), (5, .int a5)]) rfl rfl (by decide) rfl rfl ?_
              refine x_goto (tgt := 117) rfl rfl ?_
              refine x_iload (x := 30) rfl rfl ?_
              refine x_bipush (v := 90) rfl kb_90 ?_
              refine x_icge (tgt := 141) rfl rfl (br_f (by decide) ?_)
              refine x_aloadn (x := 125) rfl rfl ?_
              refine x_getR (b := 126) 12 2 rfl f_12_8 rfl (congrArg Prod.fst (F.1 125 (12, 92) rfl rfl)) (F.2.1 16002 126 rfl rfl) ?_
              refine x_iload (x := 20) rfl rfl ?_
              refine x_iload (x := 30) rfl rfl ?_
              refine y_iadd (v := 50) rfl (by decide) ?_
              refine x_iconst (v := 0) rfl ki_0 ?_
              refine y_iast (N := 50660) 50 rfl (F.1 126 (100, 50660) rfl rfl) rfl (jinb_of (by decide)) (by decide) ?_
              refine x_iinc (x := 30) (v := 31) (ls' := [(9, .int 31), (8, .int 20), (7, .int 0), (6, .int 1), (0, .ref 125), (1, .int a1), (2, .int a2), (3, .int a3), (4, .int a4), (5, .int a5)]) rfl rfl (by decide) rfl rfl ?_
              refine x_goto (tgt := 117) rfl rfl ?_
              refine x_iload (x := 31) rfl rfl ?_
              refine x_bipush (v := 90) rfl kb_90 ?_
              refine x_icge (tgt := 141) rfl rfl (br_f (by decide) ?_)
              refine x_aloadn (x := 125) rfl rfl ?_
              refine x_getR (b := 126) 12 2 rfl f_12_8 rfl (congrArg Prod.fst (F.1 125 (12, 92) rfl rfl)) (F.2.1 16002 126 rfl rfl) ?_
              refine x_iload (x := 20) rfl rfl ?_
              refine x_iload (x := 31) rfl rfl ?_
              refine y_iadd (v := 51) rfl (by decide) ?_
              refine x_iconst (v := 0) rfl ki_0 ?_
              refine y_iast (N := 50660) 51 rfl (F.1 126 (100, 50660) rfl rfl) rfl (jinb_of (by decide)) (by decide) ?_
              refine x_iinc (x := 31) (v := 32) (ls' := [(9, .int 32), (8, .int 20), (7, .int 0), (6, .int 1), (0, .ref 125), (1, .int a1), (2, .int a2), (3, .int a3), (4, .int a4), (5, .int a5)]) rfl rfl (by decide) rfl rfl ?_
              refine x_goto (tgt := 117) rfl rfl ?_
              refine x_iload (x := 32) rfl rfl ?_
              refine x_bipush (v := 90) rfl kb_90 ?_
              refine x_icge (tgt := 141) rfl rfl (br_f (by decide) ?_)
              refine x_aloadn (x := 125) rfl rfl ?_
              refine x_getR (b := 126) 12 2 rfl f_12_8 rfl (congrArg Prod.fst (F.1 125 (12, 92) rfl rfl)) (F.2.1 16002 126 rfl rfl) ?_
              refine x_iload (x := 20) rfl rfl ?_
              refine x_iload (x := 32) rfl rfl ?_
              refine y_iadd (v := 52) rfl (by decide) ?_
              refine x_iconst (v := 0) rfl ki_0 ?_
              refine y_iast (N := 50660) 52 rfl (F.1 126 (100, 50660) rfl rfl) rfl (jinb_of (by decide)) (by decide) ?_
              refine x_iinc (x := 32) (v := 33) (ls' := [(9, .int 33), (8, .int 20), (7, .int 0), (6, .int 1), (0, .ref 125), (1, .int a1), (2, .int a2), (3, .int a3), (4, .int a4), (5, .int a5)]) rfl rfl (by decide) rfl rfl ?_
              refine x_goto (tgt := 117) rfl rfl ?_
              refine x_iload (x := 33) rfl rfl ?_
              refine x_bipush (v := 90) rfl kb_90 ?_
              refine x_icge (tgt := 141) rfl rfl (br_f (by decide) ?_)
              refine x_aloadn (x := 125) rfl rfl ?_
              refine x_getR (b := 126) 12 2 rfl f_12_8 rfl (congrArg Prod.fst (F.1 125 (12, 92) rfl rfl)) (F.2.1 16002 126 rfl rfl) ?_
              refine x_iload (x := 20) rfl rfl ?_
              refine x_iload (x := 33) rfl rfl ?_
              refine y_iadd (v := 53) rfl (by decide) ?_
              refine x_iconst (v := 0) rfl ki_0 ?_
              refine y_iast (N := 50660) 53 rfl (F.1 126 (100, 50660) rfl rfl) rfl (jinb_of (by decide)) (by decide) ?_
              refine x_iinc (x := 33) (v := 34) (ls' := [(9, .int 34), (8, .int 20), (7, .int 0), (6, .int 1), (0, .ref 125), (1, .int a1), (2, .int a2), (3, .int a3), (4, .int a4), (5, .int a5)]) rfl rfl (by decide) rfl rfl ?_
              refine x_goto (tgt := 117) rfl rfl ?_
              refine x_iload (x := 34) rfl rfl ?_
              refine x_bipush (v := 90) rfl kb_90 ?_
              refine x_icge (tgt := 141) rfl rfl (br_f (by decide) ?_)
              refine x_aloadn (x := 125) rfl rfl ?_
              refine x_getR (b := 126) 12 2 rfl f_12_8 rfl (congrArg Prod.fst (F.1 125 (12, 92) rfl rfl)) (F.2.1 16002 126 rfl rfl) ?_
              refine x_iload (x := 20) rfl rfl ?_
              refine x_iload (x := 34) rfl rfl ?_
              refine y_iadd (v := 54) rfl (by decide) ?_
              refine x_iconst (v := 0) rfl ki_0 ?_
              refine y_iast (N := 50660) 54 rfl (F.1 126 (100, 50660) rfl rfl) rfl (jinb_of (by decide)) (by decide) ?_
              refine x_iinc (x := 34) (v := 35) (ls' := [(9, .int 35), (8, .int 20), (7, .int 0), (6, .int 1), (0, .ref 125), (1, .int a1), (2, .int a2), (3, .int a3), (4, .int a4), (5, .int a5)]) rfl rfl (by decide) rfl rfl ?_
              refine x_goto (tgt := 117) rfl rfl ?_
              refine x_iload (x := 35) rfl rfl ?_
              refine x_bipush (v := 90) rfl kb_90 ?_
              refine x_icge (tgt := 141) rfl rfl (br_f (by decide) ?_)
              refine x_aloadn (x := 125) rfl rfl ?_
              refine x_getR (b := 126) 12 2 rfl f_12_8 rfl (congrArg Prod.fst (F.1 125 (12, 92) rfl rfl)) (F.2.1 16002 126 rfl rfl) ?_
              refine x_iload (x := 20) rfl rfl ?_
              refine x_iload (x := 35) rfl rfl ?_
              refine y_iadd (v := 55) rfl (by decide) ?_
              refine x_iconst (v := 0) rfl ki_0 ?_
              refine y_iast (N := 50660) 55 rfl (F.1 126 (100, 50660) rfl rfl) rfl (jinb_of (by decide)) (by decide) ?_
              refine x_iinc (x := 35) (v := 36) (ls' := [(9, .int 36), (8, .int 20), (7, .int 0), (6, .int 1), (0, .ref 125), (1, .int a1), (2, .int a2), (3, .int a3), (4, .int a4), (5, .int a5)]) rfl rfl (by decide) rfl rfl ?_
              refine x_goto (tgt := 117) rfl rfl ?_
              refine x_iload (x := 36) rfl rfl ?_
              refine x_bipush (v := 90) rfl kb_90 ?_
              refine x_icge (tgt := 141) rfl rfl (br_f (by decide) ?_)
              refine x_aloadn (x := 125) rfl rfl ?_
              refine x_getR (b := 126) 12 2 rfl f_12_8 rfl (congrArg Prod.fst (F.1 125 (12, 92) rfl rfl)) (F.2.1 16002 126 rfl rfl) ?_
              refine x_iload (x := 20) rfl rfl ?_
              refine x_iload (x := 36) rfl rfl ?_
              refine y_iadd (v := 56) rfl (by decide) ?_
              refine x_iconst (v := 0) rfl ki_0 ?_
              refine y_iast (N := 50660) 56 rfl (F.1 126 (100, 50660) rfl rfl) rfl (jinb_of (by decide)) (by decide) ?_
              refine x_iinc (x := 36) (v := 37) (ls' := [(9, .int 37), (8, .int 20), (7, .int 0), (6, .int 1), (0, .ref 125), (1, .int a1), (2, .int a2), (3, .int a3), (4, .int a4), (5, .int a5)]) rfl rfl (by decide) rfl rfl ?_
              refine x_goto (tgt := 117) rfl rfl ?_
              refine x_iload (x := 37) rfl rfl ?_
              refine x_bipush (v := 90) rfl kb_90 ?_
              refine x_icge (tgt := 141) rfl rfl (br_f (by decide) ?_)
              refine x_aloadn (x := 125) rfl rfl ?_
              refine x_getR (b := 126) 12 2 rfl f_12_8 rfl (congrArg Prod.fst (F.1 125 (12, 92) rfl rfl)) (F.2.1 16002 126 rfl rfl) ?_
              refine x_iload (x := 20) rfl rfl ?_
              refine x_iload (x := 37) rfl rfl ?_
              refine y_iadd (v := 57) rfl (by decide) ?_
              refine x_iconst (v := 0) rfl ki_0 ?_
              refine y_iast (N := 50660) 57 rfl (F.1 126 (100, 50660) rfl rfl) rfl (jinb_of (by decide)) (by decide) ?_
              refine x_iinc (x := 37) (v := 38) (ls' := [(9, .int 38), (8, .int 20), (7, .int 0), (6, .int 1), (0, .ref 125), (1, .int a1), (2, .int a2), (3, .int a3), (4, .int a4), (5, .int a5)]) rfl rfl (by decide) rfl rfl ?_
              refine x_goto (tgt := 117) rfl rfl ?_
              refine x_iload (x := 38) rfl rfl ?_
              refine x_bipush (v := 90) rfl kb_90 ?_
              refine x_icge (tgt := 141) rfl rfl (br_f (by decide) ?_)
              refine x_aloadn (x := 125) rfl rfl ?_
              refine x_getR (b := 126) 12 2 rfl f_12_8 rfl (congrArg Prod.fst (F.1 125 (12, 92) rfl rfl)) (F.2.1 16002 126 rfl rfl) ?_
              refine x_iload (x := 20) rfl rfl ?_
              refine x_iload (x := 38) rfl rfl ?_
              refine y_iadd (v := 58) rfl (by decide) ?_
              refine x_iconst (v := 0) rfl ki_0 ?_
              refine y_iast (N := 50660) 58 rfl (F.1 126 (100, 50660) rfl rfl) rfl (jinb_of (by decide)) (by decide) ?_
              refine x_iinc (x := 38) (v := 39) (ls' := [(9, .int 39), (8, .int 20), (7, .int 0), (6, .int 1), (0, .ref 125), (1, .int a1), (2, .int a2), (3, .int a3), (4, .int a4), (5, .int a5)]) rfl rfl (by decide) rfl rfl ?_
              refine x_goto (tgt := 117) rfl rfl ?_
              refine x_iload (x := 39) rfl rfl ?_
              refine x_bipush (v := 90) rfl kb_90 ?_
              refine x_icge (tgt := 141) rfl rfl (br_f (by decide) ?_)
              refine x_aloadn (x := 125) rfl rfl ?_
              refine x_getR (b := 126) 12 2 rfl f_12_8 rfl (congrArg Prod.fst (F.1 125 (12, 92) rfl rfl)) (F.2.1 16002 126 rfl rfl) ?_
              refine x_iload (x := 20) rfl rfl ?_
              refine x_iload (x := 39) rfl rfl ?_
              refine y_iadd (v := 59) rfl (by decide) ?_
              refine x_iconst (v := 0) rfl ki_0 ?_
              refine y_iast (N := 50660) 59 rfl (F.1 126 (100, 50660) rfl rfl) rfl (jinb_of (by decide)) (by decide) ?_
              refine x_iinc (x := 39) (v := 40) (ls' := [(9, .int 40), (8, .int 20), (7, .int 0), (6, .int 1), (0, .ref 125), (1, .int a1), (2, .int a2), (3, .int a3), (4, .int a4), (5, .int a5)]) rfl rfl (by decide) rfl rfl ?_
              refine x_goto (tgt := 117) rfl rfl ?_
              refine x_iload (x := 40) rfl rfl ?_
              refine x_bipush (v := 90) rfl kb_90 ?_
              refine x_icge (tgt := 141) rfl rfl (br_f (by decide) ?_)
              refine x_aloadn (x := 125) rfl rfl ?_
              refine x_getR (b := 126) 12 2 rfl f_12_8 rfl (congrArg Prod.fst (F.1 125 (12, 92) rfl rfl)) (F.2.1 16002 126 rfl rfl) ?_
              refine x_iload (x := 20) rfl rfl ?_
              refine x_iload (x := 40) rfl rfl ?_
              refine y_iadd (v := 60) rfl (by decide) ?_
              refine x_iconst (v := 0) rfl ki_0 ?_
              refine y_iast (N := 50660) 60 rfl (F.1 126 (100, 50660) rfl rfl) rfl (jinb_of (by decide)) (by decide) ?_
              refine x_iinc (x := 40) (v := 41) (ls' := [(9, .int 41), (8, .int 20), (7, .int 0), (6, .int 1), (0, .ref 125), (1, .int a1), (2, .int a2), (3, .int a3), (4, .int a4), (5, .int a5)]) rfl rfl (by decide) rfl rfl ?_
              refine x_goto (tgt := 117) rfl rfl ?_
              refine x_iload (x := 41) rfl rfl ?_
              refine x_bipush (v := 90) rfl kb_90 ?_
              refine x_icge (tgt := 141) rfl rfl (br_f (by decide) ?_)
              refine x_aloadn (x := 125) rfl rfl ?_
              refine x_getR (b := 126) 12 2 rfl f_12_8 rfl (congrArg Prod.fst (F.1 125 (12, 92) rfl rfl)) (F.2.1 16002 126 rfl rfl) ?_
              refine x_iload (x := 20) rfl rfl ?_
              refine x_iload (x := 41) rfl rfl ?_
              refine y_iadd (v := 61) rfl (by decide) ?_
              refine x_iconst (v := 0) rfl ki_0 ?_
              refine y_iast (N := 50660) 61 rfl (F.1 126 (100, 50660) rfl rfl) rfl (jinb_of (by decide)) (by decide) ?_
              refine x_iinc (x := 41) (v := 42) (ls' := [(9, .int 42), (8, .int 20), (7, .int 0), (6, .int 1), (0, .ref 125), (1, .int a1), (2, .int a2), (3, .int a3), (4, .int a4), (5, .int a5)]) rfl rfl (by decide) rfl rfl ?_
              refine x_goto (tgt := 117) rfl rfl ?_
              refine x_iload (x := 42) rfl rfl ?_
              refine x_bipush (v := 90) rfl kb_90 ?_
              refine x_icge (tgt := 141) rfl rfl (br_f (by decide) ?_)
              refine x_aloadn (x := 125) rfl rfl ?_
              refine x_getR (b := 126) 12 2 rfl f_12_8 rfl (congrArg Prod.fst (F.1 125 (12, 92) rfl rfl)) (F.2.1 16002 126 rfl rfl) ?_
              refine x_iload (x := 20) rfl rfl ?_
              refine x_iload (x := 42) rfl rfl ?_
              refine y_iadd (v := 62) rfl (by decide) ?_
              refine x_iconst (v := 0) rfl ki_0 ?_
              refine y_iast (N := 50660) 62 rfl (F.1 126 (100, 50660) rfl rfl) rfl (jinb_of (by decide)) (by decide) ?_
              refine x_iinc (x := 42) (v := 43) (ls' := [(9, .int 43), (8, .int 20), (7, .int 0), (6, .int 1), (0, .ref 125), (1, .int a1), (2, .int a2), (3, .int a3), (4, .int a4), (5, .int a5)]) rfl rfl (by decide) rfl rfl ?_
              refine x_goto (tgt := 117) rfl rfl ?_
              refine x_iload (x := 43) rfl rfl ?_
              refine x_bipush (v := 90) rfl kb_90 ?_
              refine x_icge (tgt := 141) rfl rfl (br_f (by decide) ?_)
              refine x_aloadn (x := 125) rfl rfl ?_
              refine x_getR (b := 126) 12 2 rfl f_12_8 rfl (congrArg Prod.fst (F.1 125 (12, 92) rfl rfl)) (F.2.1 16002 126 rfl rfl) ?_
              refine x_iload (x := 20) rfl rfl ?_
              refine x_iload (x := 43) rfl rfl ?_
              refine y_iadd (v := 63) rfl (by decide) ?_
              refine x_iconst (v := 0) rfl ki_0 ?_
              refine y_iast (N := 50660) 63 rfl (F.1 126 (100, 50660) rfl rfl) rfl (jinb_of (by decide)) (by decide) ?_
              refine x_iinc (x := 43) (v := 44) (ls' := [(9, .int 44), (8, .int 20), (7, .int 0), (6, .int 1), (0, .ref 125), (1, .int a1), (2, .int a2), (3, .int a3), (4, .int a4), (5, .int a5)]) rfl rfl (by decide) rfl rfl ?_
              refine x_goto (tgt := 117) rfl rfl ?_
              refine x_iload (x := 44) rfl rfl ?_
              refine x_bipush (v := 90) rfl kb_90 ?_
              refine x_icge (tgt := 141) rfl rfl (br_f (by decide) ?_)
              refine x_aloadn (x := 125) rfl rfl ?_
              refine x_getR (b := 126) 12 2 rfl f_12_8 rfl (congrArg Prod.fst (F.1 125 (12, 92) rfl rfl)) (F.2.1 16002 126 rfl rfl) ?_
              refine x_iload (x := 20) rfl rfl ?_
              refine x_iload (x := 44) rfl rfl ?_
              refine y_iadd (v := 64) rfl (by decide) ?_
              refine x_iconst (v := 0) rfl ki_0 ?_
              refine y_iast (N := 50660) 64 rfl (F.1 126 (100, 50660) rfl rfl) rfl (jinb_of (by decide)) (by decide) ?_
              refine x_iinc (x := 44) (v := 45) (ls' := [(9, .int 45), (8, .int 20), (7, .int 0), (6, .int 1), (0, .ref 125), (1, .int a1), (2, .int a2), (3, .int a3), (4, .int a4), (5, .int a5)]) rfl rfl (by decide) rfl rfl ?_
              refine x_goto (tgt := 117) rfl rfl ?_
              refine x_iload (x := 45) rfl rfl ?_
              refine x_bipush (v := 90) rfl kb_90 ?_
              refine x_icge (tgt := 141) rfl rfl (br_f (by decide) ?_)
              refine x_aloadn (x := 125) rfl rfl ?_
              refine x_getR (b := 126) 12 2 rfl f_12_8 rfl (congrArg Prod.fst (F.1 125 (12, 92) rfl rfl)) (F.2.1 16002 126 rfl rfl) ?_
              refine x_iload (x := 20) rfl rfl ?_
              refine x_iload (x := 45) rfl rfl ?_
              refine y_iadd (v := 65) rfl (by decide) ?_
              refine x_iconst (v := 0) rfl ki_0 ?_
              refine y_iast (N := 50660) 65 rfl (F.1 126 (100, 50660) rfl rfl) rfl (jinb_of (by decide)) (by decide) ?_
              refine x_iinc (x := 45) (v := 46) (ls' := [(9, .int 46), (8, .int 20), (7, .int 0), (6, .int 1), (0, .ref 125), (1, .int a1), (2, .int a2), (3, .int a3), (4, .int a4), (5, .int a5)]) rfl rfl (by decide) rfl rfl ?_
              refine x_goto (tgt := 117) rfl rfl ?_
              refine x_iload (x := 46) rfl rfl ?_
              refine x_bipush (v := 90) rfl kb_90 ?_
              refine x_icge (tgt := 141) rfl rfl (br_f (by decide) ?_)
              refine x_aloadn (x := 125) rfl rfl ?_
              refine x_getR (b := 126) 12 2 rfl f_12_8 rfl (congrArg Prod.fst (F.1 125 (12, 92) rfl rfl)) (F.2.1 16002 126 rfl rfl) ?_
              refine x_iload (x := 20) rfl rfl ?_
              refine x_iload (x := 46) rfl rfl ?_
              refine y_iadd (v := 66) rfl (by decide) ?_
              refine x_iconst (v := 0) rfl ki_0 ?_
              refine y_iast (N := 50660) 66 rfl (F.1 126 (100, 50660) rfl rfl) rfl (jinb_of (by decide)) (by decide) ?_
              refine x_iinc (x := 46) (v := 47) (ls' := [(9, .int 47), (8, .int 20), (7, .int 0), (6, .int 1), (0, .ref 125), (1, .int a1), (2, .int a2), (3, .int a3), (4, .int a4), (5, .int a5)]) rfl rfl (by decide) rfl rfl ?_
              refine x_goto (tgt := 117) rfl rfl ?_
              refine x_iload (x := 47) rfl rfl ?_
              refine x_bipush (v := 90) rfl kb_90 ?_
              refine x_icge (tgt := 141) rfl rfl (br_f (by decide) ?_)
              refine x_aloadn (x := 125) rfl rfl ?_
              refine x_getR (b := 126) 12 2 rfl f_12_8 rfl (congrArg Prod.fst (F.1 125 (12, 92) rfl rfl)) (F.2.1 16002 126 rfl rfl) ?_
              refine x_iload (x := 20) rfl rfl ?_
              refine x_iload (x := 47) rfl rfl ?_
              refine y_iadd (v := 67) rfl (by decide) ?_
              refine x_iconst (v := 0) rfl ki_0 ?_
              refine y_iast (N := 50660) 67 rfl (F.1 126 (100, 50660) rfl rfl) rfl (jinb_of (by decide)) (by decide) ?_
              refine x_iinc (x := 47) (v := 48) (ls' := [(9, .int 48), (8, .int 20), (7, .int 0), (6, .int 1), (0, .ref 125), (1, .int a1), (2, .int a2), (3, .int a3), (4, .int a4), (5, .int a5)]) rfl rfl (by decide) rfl rfl ?_
              refine x_goto (tgt := 117) rfl rfl ?_
              refine x_iload (x := 48) rfl rfl ?_
              refine x_bipush (v := 90) rfl kb_90 ?_
              refine x_icge (tgt := 141) rfl rfl (br_f (by decide) ?_)
              refine x_aloadn (x := 125) rfl rfl ?_
              refine x_getR (b := 126) 12 2 rfl f_12_8 rfl (congrArg Prod.fst (F.1 125 (12, 92) rfl rfl)) (F.2.1 16002 126 rfl rfl) ?_
              refine x_iload (x := 20) rfl rfl ?_
              refine x_iload (x := 48) rfl rfl ?_
              refine y_iadd (v := 68) rfl (by decide) ?_
              refine x_iconst (v := 0) rfl ki_0 ?_
              refine y_iast (N := 50660) 68 rfl (F.1 126 (100, 50660) rfl rfl) rfl (jinb_of (by decide)) (by decide) ?_
              refine x_iinc (x := 48) (v := 49) (ls' := [(9, .int 49), (8, .int 20), (7, .int 0), (6, .int 1), (0, .ref 125), (1, .int a1), (2, .int a2), (3, .int a3), (4, .int a4), (5, .int a5)]) rfl rfl (by decide) rfl rfl ?_
              refine x_goto (tgt := 117) rfl rfl ?_
              refine x_iload (x := 49) rfl rfl ?_
              refine x_bipush (v := 90) rfl kb_90 ?_
              refine x_icge (tgt := 141) rfl rfl (br_f (by decide) ?_)
              refine x_aloadn (x := 125) rfl rfl ?_
              refine x_getR (b := 126) 12 2 rfl f_12_8 rfl (congrArg Prod.fst (F.1 125 (12, 92) rfl rfl)) (F.2.1 16002 126 rfl rfl) ?_
              refine x_iload (x := 20) rfl rfl ?_
              refine x_iload (x := 49) rfl rfl ?_
              refine y_iadd (v := 69) rfl (by decide) ?_
              refine x_iconst (v := 0) rfl ki_0 ?_
              refine y_iast (N := 50660) 69 rfl (F.1 126 (100, 50660) rfl rfl) rfl (jinb_of (by decide)) (by decide) ?_
              refine x_iinc (x := 49) (v := 50) (ls' := [(9, .int 50), (8, .int 20), (7, .int 0), (6, .int 1), (0, .ref 125), (1, .int a1), (2, .int a2), (3, .int a3), (4, .int a4), (5, .int a5)]) rfl rfl (by decide) rfl rfl ?_
              refine x_goto (tgt := 117) rfl rfl ?_
              refine x_iload (x := 50) rfl rfl ?_
              refine x_bipush (v := 90) rfl kb_90 ?_
              refine x_icge (tgt := 141) rfl rfl (br_f (by decide) ?_)
              refine x_aloadn (x := 125) rfl rfl ?_
              refine x_getR (b := 126) 12 2 rfl f_12_8 rfl (congrArg Prod.fst (F.1 125 (12, 92) rfl rfl)) (F.2.1 16002 126 rfl rfl) ?_
              refine x_iload (x := 20) rfl rfl ?_
              refine x_iload (x := 50) rfl rfl ?_
              refine y_iadd (v := 70) rfl (by decide) ?_
              refine x_iconst (v := 0) rfl ki_0 ?_
              refine y_iast (N := 50660) 70 rfl (F.1 126 (100, 50660) rfl rfl) rfl (jinb_of (by decide)) (by decide) ?_
              refine x_iinc (x := 50) (v := 51) (ls' := [(9, .int 51), (8, .int 20), (7, .int 0), (6, .int 1), (0, .ref 125), (1, .int a1), (2, .int a2), (3, .int a3), (4, .int a4), (5, .int a5)]) rfl rfl (by decide) rfl rfl ?_
              refine x_goto (tgt := 117) rfl rfl ?_
              refine x_iload (x := 51) rfl rfl ?_
              refine x_bipush (v := 90) rfl kb_90 ?_
              refine x_icge (tgt := 141) rfl rfl (br_f (by decide) ?_)
              refine x_aloadn (x := 125) rfl rfl ?_
              refine x_getR (b := 126) 12 2 rfl f_12_8 rfl (congrArg Prod.fst (F.1 125 (12, 92) rfl rfl)) (F.2.1 16002 126 rfl rfl) ?_
              refine x_iload (x := 20) rfl rfl ?_
              refine x_iload (x := 51) rfl rfl ?_
              refine y_iadd (v := 71) rfl (by decide) ?_
              refine x_iconst (v := 0) rfl ki_0 ?_
              refine y_iast (N := 50660) 71 rfl (F.1 126 (100, 50660) rfl rfl) rfl (jinb_of (by decide)) (by decide) ?_
              refine x_iinc (x := 51) (v := 52) (ls' := [(9, .int 52), (8, .int 20), (7, .int 0), (6, .int 1), (0, .ref 125), (1, .int a1), (2, .int a2), (3, .int a3), (4, .int a4), (5, .int a5)]) rfl rfl (by decide) rfl rfl ?_
              refine x_goto (tgt := 117) rfl rfl ?_
              refine x_iload (x := 52) rfl rfl ?_
              refine x_bipush (v := 90) rfl kb_90 ?_
              refine x_icge (tgt := 141) rfl rfl (br_f (by decide) ?_)
              refine x_aloadn (x := 125) rfl rfl ?_
              refine x_getR (b := 126) 12 2 rfl f_12_8 rfl (congrArg Prod.fst (F.1 125 (12, 92) rfl rfl)) (F.2.1 16002 126 rfl rfl) ?_
              refine x_iload (x := 20) rfl rfl ?_
              refine x_iload (x := 52) rfl rfl ?_
              refine y_iadd (v := 72) rfl (by decide) ?_
              refine x_iconst (v := 0) rfl ki_0 ?_
              refine y_iast (N := 50660) 72 rfl (F.1 126 (100, 50660) rfl rfl) rfl (jinb_of (by decide)) (by decide) ?_
              refine x_iinc (x := 52) (v := 53) (ls' := [(9, .int 53), (8, .int 20), (7, .int 0), (6, .int 1), (0, .ref 125), (1, .int a1), (2, .int a2), (3, .int a3), (4, .int a4), (5, .int a5)]) rfl rfl (by decide) rfl rfl ?_
              refine x_goto (tgt := 117) rfl rfl ?_
              refine x_iload (x := 53) rfl rfl ?_
              refine x_bipush (v := 90) rfl kb_90 ?_
              refine x_icge (tgt := 141) rfl rfl (br_f (by decide) ?_)
              refine x_aloadn (x := 125) rfl rfl ?_
              refine x_getR (b := 126) 12 2 rfl f_12_8 rfl (congrArg Prod.fst (F.1 125 (12, 92) rfl rfl)) (F.2.1 16002 126 rfl rfl) ?_
              refine x_iload (x := 20) rfl rfl ?_
              refine x_iload (x := 53) rfl rfl ?_
              refine y_iadd (v := 73) rfl (by decide) ?_
              refine x_iconst (v := 0) rfl ki_0 ?_
              refine y_iast (N := 50660) 73 rfl (F.1 126 (100, 50660) rfl rfl) rfl (jinb_of (by decide)) (by decide) ?_
              refine x_iinc (x := 53) (v := 54) (ls' := [(9, .int 54), (8, .int 20), (7, .int 0), (6, .int 1), (0, .ref 125), (1, .int a1), (2, .int a2), (3, .int a3), (4, .int a4), (5, .int a5)]) rfl rfl (by decide) rfl rfl ?_
              refine x_goto (tgt := 117) rfl rfl ?_
              refine x_iload (x := 54) rfl rfl ?_
              refine x_bipush (v := 90) rfl kb_90 ?_
              refine x_icge (tgt := 141) rfl rfl (br_f (by decide) ?_)
              refine x_aloadn (x := 125) rfl rfl ?_
              refine x_getR (b := 126) 12 2 rfl f_12_8 rfl (congrArg Prod.fst (F.1 125 (12, 92) rfl rfl)) (F.2.1 16002 126 rfl rfl) ?_
              refine x_iload (x := 20) rfl rfl ?_
              refine x_iload (x := 54) rfl rfl ?_
              refine y_iadd (v := 74) rfl (by decide) ?_
              refine x_iconst (v := 0) rfl ki_0 ?_
              refine y_iast (N := 50660) 74 rfl (F.1 126 (100, 50660) rfl rfl) rfl (jinb_of (by decide)) (by decide) ?_
              refine x_iinc (x := 54) (v := 55) (ls' := [(9, .int 55), (8, .int 20), (7, .int 0), (6, .int 1), (0, .ref 125), (1, .int a1), (2, .int a2), (3, .int a3), (4, .int a4), (5, .int a5)]) rfl rfl (by decide) rfl rfl ?_
              refine x_goto (tgt := 117) rfl rfl ?_
              refine x_iload (x := 55) rfl rfl ?_
              refine x_bipush (v := 90) rfl kb_90 ?_
              refine x_icge (tgt := 141) rfl rfl (br_f (by decide) ?_)
              refine x_aloadn (x := 125) rfl rfl ?_
              refine x_getR (b := 126) 12 2 rfl f_12_8 rfl (congrArg Prod.fst (F.1 125 (12, 92) rfl rfl)) (F.2.1 16002 126 rfl rfl) ?_
              refine x_iload (x := 20) rfl rfl ?_
              refine x_iload (x := 55) rfl rfl ?_
              refine y_iadd (v := 75) rfl (by decide) ?_
              refine x_iconst (v := 0) rfl ki_0 ?_
              refine y_iast (N := 50660) 75 rfl (F.1 126 (100, 50660) rfl rfl) rfl (jinb_of (by decide)) (by decide) ?_
              refine x_iinc (x := 55) (v := 56) (ls' := [(9, .int 56), (8, .int 20), (7, .int 0), (6, .int 1), (0, .ref 125), (1, .int a1), (2, .int a2), (3, .int a3), (4, .int a4), (5, .int a5)]) rfl rfl (by decide) rfl rfl ?_
              refine x_goto (tgt := 117) rfl rfl ?_
              refine x_iload (x := 56) rfl rfl ?_
              refine x_bipush (v := 90) rfl kb_90 ?_
              refine x_icge (tgt := 141) rfl rfl (br_f (by decide) ?_)
              refine x_aloadn (x := 125) rfl rfl ?_
              refine x_getR (b := 126) 12 2 rfl f_12_8 rfl (congrArg Prod.fst (F.1 125 (12, 92) rfl rfl)) (F.2.1 16002 126 rfl rfl) ?_
              refine x_iload (x := 20) rfl rfl ?_
              refine x_iload (x := 56) rfl rfl ?_
              refine y_iadd (v := 76) rfl (by decide) ?_
              refine x_iconst (v := 0) rfl ki_0 ?_
              refine y_iast (N := 50660) 76 rfl (F.1 126 (100, 50660) rfl rfl) rfl (jinb_of (by decide)) (by decide) ?_
              refine x_iinc (x := 56) (v := 57) (ls' := [(9, .int 57), (8, .int 20), (7, .int 0), (6, .int 1), (0, .ref 125), (1, .int a1), (2, .int a2), (3, .int a3), (4, .int a4), (5, .int a5)]) rfl rfl (by decide) rfl rfl ?_
              refine x_goto (tgt := 117) rfl rfl ?_
              refine x_iload (x := 57) rfl rfl ?_
              refine x_bipush (v := 90) rfl kb_90 ?_
              refine x_icge (tgt := 141) rfl rfl (br_f (by decide) ?_)
              refine x_aloadn (x := 125) rfl rfl ?_
              refine x_getR (b := 126) 12 2 rfl f_12_8 rfl (congrArg Prod.fst (F.1 125 (12, 92) rfl rfl)) (F.2.1 16002 126 rfl rfl) ?_
              refine x_iload (x := 20) rfl rfl ?_
              refine x_iload (x := 57) rfl rfl ?_
              refine y_iadd (v := 77) rfl (by decide) ?_
              refine x_iconst (v := 0) rfl ki_0 ?_
              refine y_iast (N := 50660) 77 rfl (F.1 126 (100, 50660) rfl rfl) rfl (jinb_of (by decide)) (by decide) ?_
              refine x_iinc (x := 57) (v := 58) (ls' := [(9, .int 58), (8, .int 20), (7, .int 0), (6, .int 1), (0, .ref 125), (1, .int a1), (2, .int a2), (3, .int a3), (4, .int a4), (5, .int a5)]) rfl rfl (by decide) rfl rfl ?_
              refine x_goto (tgt := 117) rfl rfl ?_
              refine x_iload (x := 58) rfl rfl ?_
              refine x_bipush (v := 90) rfl kb_90 ?_
              refine x_icge (tgt := 141) rfl rfl (br_f (by decide) ?_)
              refine x_aloadn (x := 125) rfl rfl ?_
              refine x_getR (b := 126) 12 2 rfl f_12_8 rfl (congrArg Prod.fst (F.1 125 (12, 92) rfl rfl)) (F.2.1 16002 126 rfl rfl) ?_
              refine x_iload (x := 20) rfl rfl ?_
              refine x_iload (x := 58) rfl rfl ?_
              refine y_iadd (v := 78) rfl (by decide) ?_
              refine x_iconst (v := 0) rfl ki_0 ?_
              refine y_iast (N := 50660) 78 rfl (F.1 126 (100, 50660) rfl rfl) rfl (jinb_of (by decide)) (by decide) ?_
              refine x_iinc (x := 58) (v := 59) (ls' := [(9, .int 59), (8, .int 20), (7, .int 0), (6, .int 1), (0, .ref 125), (1, .int a1), (2, .int a2), (3, .int a3), (4, .int a4), (5, .int a5)]) rfl rfl (by decide) rfl rfl ?_
              refine x_goto (tgt := 117) rfl rfl ?_
              refine x_iload (x := 59) rfl rfl ?_
              refine x_bipush (v := 90) rfl kb_90 ?_
              refine x_icge (tgt := 141) rfl rfl (br_f (by decide) ?_)
              refine x_aloadn (x := 125) rfl rfl ?_
              refine x_getR (b := 126) 12 2 rfl f_12_8 rfl (congrArg Prod.fst (F.1 125 (12, 92) rfl rfl)) (F.2.1 16002 126 rfl rfl) ?_
              refine x_iload (x := 20) rfl rfl ?_
              refine x_iload (x := 59) rfl rfl ?_
              refine y_iadd (v := 79) rfl (by decide) ?_
              refine x_iconst (v := 0) rfl ki_0 ?_
              refine y_iast (N := 50660) 79 rfl (F.1 126 (100, 50660) rfl rfl) rfl (jinb_of (by decide)) (by decide) ?_
              refine x_iinc (x := 59) (v := 60) (ls' := [(9, .int 60), (8, .int 20), (7, .int 0), (6, .int 1), (0, .ref 125), (1, .int a1), (2, .int a2), (3, .int a3), (4, .int a4), (5, .int a5)]) rfl rfl (by decide) rfl rfl ?_
              refine x_goto (tgt := 117) rfl rfl ?_
              refine x_iload (x := 60) rfl rfl ?_
              refine x_bipush (v := 90) rfl kb_90 ?_
              refine x_icge (tgt := 141) rfl rfl (br_f (by decide) ?_)
              refine x_aloadn (x := 125) rfl rfl ?_
              refine x_getR (b := 126) 12 2 rfl f_12_8 rfl (congrArg Prod.fst (F.1 125 (12, 92) rfl rfl)) (F.2.1 16002 126 rfl rfl) ?_
              refine x_iload (x := 20) rfl rfl ?_
              refine x_iload (x := 60) rfl rfl ?_
              refine y_iadd (v := 80) rfl (by decide) ?_
              refine x_iconst (v := 0) rfl ki_0 ?_
              refine y_iast (N := 50660) 80 rfl (F.1 126 (100, 50660) rfl rfl) rfl (jinb_of (by decide)) (by decide) ?_
              refine x_iinc (x := 60) (v := 61) (ls' := [(9, .int 61), (8, .int 20), (7, .int 0), (6, .int 1), (0, .ref 125), (1, .int a1), (2, .int a2), (3, .int a3), (4, .int a4), (5, .int a5)]) rfl rfl (by decide) rfl rfl ?_
              refine x_goto (tgt := 117) rfl rfl ?_
              refine x_iload (x := 61) rfl rfl ?_
              refine x_bipush (v := 90) rfl kb_90 ?_
              refine x_icge (tgt := 141) rfl rfl (br_f (by decide) ?_)
              refine x_aloadn (x := 125) rfl rfl ?_
              refine x_getR (b := 126) 12 2 rfl f_12_8 rfl (congrArg Prod.fst (F.1 125 (12, 92) rfl rfl)) (F.2.1 16002 126 rfl rfl) ?_
              refine x_iload (x := 20) rfl rfl ?_
              refine x_iload (x := 61) rfl rfl ?_
              refine y_iadd (v := 81) rfl (by decide) ?_
              refine x_iconst (v := 0) rfl ki_0 ?_
              refine y_iast (N := 50660) 81 rfl (F.1 126 (100, 50660) rfl rfl) rfl (jinb_of (by decide)) (by decide) ?_
              refine x_iinc (x := 61) (v := 62) (ls' := [(9, .int 62), (8, .int 20), (7, .int 0), (6, .int 1), (0, .ref 125), (1, .int a1), (2, .int a2), (3, .int a3), (4, .int a4), (5, .int a5)]) rfl rfl (by decide) rfl rfl ?_
              refine x_goto (tgt := 117) rfl rfl ?_
              refine x_iload (x := 62) rfl rfl ?_
              refine x_bipush (v := 90) rfl kb_90 ?_
              refine x_icge (tgt := 141) rfl rfl (br_f (by decide) ?_)
              refine x_aloadn (x := 125) rfl rfl ?_
              refine x_getR (b := 126) 12 2 rfl f_12_8 rfl (congrArg Prod.fst (F.1 125 (12, 92) rfl rfl)) (F.2.1 16002 126 rfl rfl) ?_
              refine x_iload (x := 20) rfl rfl ?_
              refine x_iload (x := 62) rfl rfl ?_
              refine y_iadd (v := 82) rfl (by decide) ?_
              refine x_iconst (v := 0) rfl ki_0 ?_
              refine y_iast (N := 50660) 82 rfl (F.1 126 (100, 50660) rfl rfl) rfl (jinb_of (by decide)) (by decide) ?_
              refine x_iinc (x := 62) (v := 63) (ls' := [(9, .int 63), (8, .int 20), (7, .int 0), (6, .int 1), (0, .ref 125), (1, .int a1), (2, .int a2), (3, .int a3), (4, .int a4), (5, .int a5)]) rfl rfl (by decide) rfl rfl ?_
              refine x_goto (tgt := 117) rfl rfl ?_
              refine x_iload (x := 63) rfl rfl ?_
              refine x_bipush (v := 90) rfl kb_90 ?_
              refine x_icge (tgt := 141) rfl rfl (br_f (by decide) ?_)
              refine x_aloadn (x := 125) rfl rfl ?_
              refine x_getR (b := 126) 12 2 rfl f_12_8 rfl (congrArg Prod.fst (F.1 125 (12, 92) rfl rfl)) (F.2.1 16002 126 rfl rfl) ?_
              refine x_iload (x := 20) rfl rfl ?_
              refine x_iload (x := 63) rfl rfl ?_
              refine y_iadd (v := 83) rfl (by decide) ?_
              refine x_iconst (v := 0) rfl ki_0 ?_
              refine y_iast (N := 50660) 83 rfl (F.1 126 (100, 50660) rfl rfl) rfl (jinb_of (by decide)) (by decide) ?_
              refine x_iinc (x := 63) (v := 64) (ls' := [(9, .int 64), (8, .int 20), (7, .int 0), (6, .int 1), (0, .ref 125), (1, .int a1), (2, .int a2), (3, .int a3), (4, .int a4), (5, .int a5)]) rfl rfl (by decide) rfl rfl ?_
              refine x_goto (tgt := 117) rfl rfl ?_
              refine x_iload (x := 64) rfl rfl ?_
              refine x_bipush (v := 90) rfl kb_90 ?_
              refine x_icge (tgt := 141) rfl rfl (br_f (by decide) ?_)
              refine x_aloadn (x := 125) rfl rfl ?_
              refine x_getR (b := 126) 12 2 rfl f_12_8 rfl (congrArg Prod.fst (F.1 125 (12, 92) rfl rfl)) (F.2.1 16002 126 rfl rfl) ?_
              refine x_iload (x := 20) rfl rfl ?_
              refine x_iload (x := 64) rfl rfl ?_
              refine y_iadd (v := 84) rfl (by decide) ?_
              refine x_iconst (v := 0) rfl ki_0 ?_
              refine y_iast (N := 50660) 84 rfl (F.1 126 (100, 50660) rfl rfl) rfl (jinb_of (by decide)) (by decide) ?_
              refine x_iinc (x := 64) (v := 65) (ls' := [(9, .int 65), (8, .int 20), (7, .int 0), (6, .int 1), (0, .ref 125), (1, .int a1), (2, .int a2), (3, .int a3), (4, .int a4), (5, .int a5)]) rfl rfl (by decide) rfl rfl ?_
              refine x_goto (tgt := 117) rfl rfl ?_
              refine x_iload (x := 65) rfl rfl ?_
              refine x_bipush (v := 90) rfl kb_90 ?_
              refine x_icge (tgt := 141) rfl rfl (br_f (by decide) ?_)
              refine x_aloadn (x := 125) rfl rfl ?_
              refine x_getR (b := 126) 12 2 rfl f_12_8 rfl (congrArg Prod.fst (F.1 125 (12, 92) rfl rfl)) (F.2.1 16002 126 rfl rfl) ?_
              refine x_iload (x := 20) rfl rfl ?_
              refine x_iload (x := 65) rfl rfl ?_
              refine y_iadd (v := 85) rfl (by decide) ?_
              refine x_iconst (v := 0) rfl ki_0 ?_
              refine y_iast (N := 50660) 85 rfl (F.1 126 (100, 50660) rfl rfl) rfl (jinb_of (by decide)) (by decide) ?_
              refine x_iinc (x := 65) (v := 66) (ls' := [(9, .int 66), (8, .int 20), (7, .int 0), (6, .int 1), (0, .ref 125), (1, .int a1), (2, .int a2), (3, .int a3), (4, .int a4), (5, .int a5)]) rfl rfl (by decide) rfl rfl ?_
              refine x_goto (tgt := 117) rfl rfl ?_
              refine x_iload (x := 66) rfl rfl ?_
              refine x_bipush (v := 90) rfl kb_90 ?_
              refine x_icge (tgt := 141) rfl rfl (br_f (by decide) ?_)
              refine x_aloadn (x := 125) rfl rfl ?_
              refine x_getR (b := 126) 12 2 rfl f_12_8 rfl (congrArg Prod.fst (F.1 125 (12, 92) rfl rfl)) (F.2.1 16002 126 rfl rfl) ?_
              refine x_iload (x := 20) rfl rfl ?_
              refine x_iload (x := 66) rfl rfl ?_
              refine y_iadd (v := 86) rfl (by decide) ?_
              refine x_iconst (v := 0) rfl ki_0 ?_
              refine y_iast (N := 50660) 86 rfl (F.1 126 (100, 50660) rfl rfl) rfl (jinb_of (by decide)) (by decide) ?_
              refine x_iinc (x := 66) (v := 67) (ls' := [(9, .int 67), (8, .int 20), (7, .int 0), (6, .int 1), (0, .ref 125), (1, .int a1), (2, .int a2), (3, .int a3), (4, .int a4), (5, .int a5)]) rfl rfl (by decide) rfl rfl ?_
              refine x_goto (tgt := 117) rfl rfl ?_
              refine x_iload (x := 67) rfl rfl ?_
              refine x_bipush (v := 90) rfl kb_90 ?_
              refine x_icge (tgt := 141) rfl rfl (br_f (by decide) ?_)
              refine x_aloadn (x := 125) rfl rfl ?_
              refine x_getR (b := 126) 12 2 rfl f_12_8 rfl (congrArg Prod.fst (F.1 125 (12, 92) rfl rfl)) (F.2.1 16002 126 rfl rfl) ?_
              refine x_iload (x := 20) rfl rfl ?_
              refine x_iload (x := 67) rfl rfl ?_
              refine y_iadd (v := 87) rfl (by decide) ?_
              refine x_iconst (v := 0) rfl ki_0 ?_
              refine y_iast (N := 50660) 87 rfl (F.1 126 (100, 50660) rfl rfl) rfl (jinb_of (by decide)) (by decide) ?_
              refine x_iinc (x := 67) (v := 68) (ls' := [(9, .int 68), (8, .int 20), (7, .int 0), (6, .int 1), (0, .ref 125), (1, .int a1), (2, .int a2), (3, .int a3), (4, .int a4), (5, .int a5)]) rfl rfl (by decide) rfl rfl ?_
              refine x_goto (tgt := 117) rfl rfl ?_
              refine x_iload (x := 68) rfl rfl ?_
              refine x_bipush (v := 90) rfl kb_90 ?_
              refine x_icge (tgt := 141) rfl rfl (br_f (by decide) ?_)
              refine x_aloadn (x := 125) rfl rfl ?_
              refine x_getR (b := 126) 12 2 rfl f_12_8 rfl (congrArg Prod.fst (F.1 125 (12, 92) rfl rfl)) (F.2.1 16002 126 rfl rfl) ?_
              refine x_iload (x := 20) rfl rfl ?_
              refine x_iload (x := 68) rfl rfl ?_
              refine y_iadd (v := 88) rfl (by decide) ?_
              refine x_iconst (v := 0) rfl ki_0 ?_
              refine y_iast (N := 50660) 88 rfl (F.1 126 (100, 50660) rfl rfl) rfl (jinb_of (by decide)) (by decide) ?_
              refine x_iinc (x := 68) (v := 69) (ls' := [(9, .int 69), (8, .int 20), (7, .int 0), (6, .int 1), (0, .ref 125), (1, .int a1), (2, .int a2), (3, .int a3), (4, .int a4), (5, .int a5)]) rfl rfl (by decide) rfl rfl ?_
              refine x_goto (tgt := 117) rfl rfl ?_
              refine x_iload (x := 69) rfl rfl ?_
              refine x_bipush (v := 90) rfl kb_90 ?_
              refine x_icge (tgt := 141) rfl rfl (br_f (by decide) ?_)
              refine x_aloadn (x := 125) rfl rfl ?_
              refine x_getR (b := 126) 12 2 rfl f_12_8 rfl (congrArg Prod.fst (F.1 125 (12, 92) rfl rfl)) (F.2.1 16002 126 rfl rfl) ?_
              refine x_iload (x := 20) rfl rfl ?_
              refine x_iload (x := 69) rfl rfl ?_
              refine y_iadd (v := 89) rfl (by decide) ?_
              refine x_iconst (v := 0) rfl ki_0 ?_
              refine y_iast (N := 50660) 89 rfl (F.1 126 (100, 50660) rfl rfl) rfl (jinb_of (by decide)) (by decide) ?_
              refine x_iinc (x := 69) (v := 70) (ls' := [(9, .int 70), (8, .int 20), (7, .int 0), (6, .int 1), (0, .ref 125), (1, .int a1), (2, .int a2), (3, .int a3), (4, .int a4), (5, .int a5)]) rfl rfl (by decide) rfl rfl ?_
              refine x_goto (tgt := 117) rfl rfl ?_
              refine x_iload (x := 70) rfl rfl ?_
              refine x_bipush (v := 90) rfl kb_90 ?_
              refine x_icge (tgt := 141) rfl rfl (br_f (by decide) ?_)
              refine x_aloadn (x := 125) rfl rfl ?_
              refine x_getR (b := 126) 12 2 rfl f_12_8 rfl (congrArg Prod.fst (F.1 125 (12, 92) rfl rfl)) (F.2.1 16002 126 rfl rfl) ?_
              refine x_iload (x := 20) rfl rfl ?_
              refine x_iload (x := 70) rfl rfl ?_
              refine y_iadd (v := 90) rfl (by decide) ?_
              refine x_iconst (v := 0) rfl ki_0 ?_
              refine y_iast (N := 50660) 90 rfl (F.1 126 (100, 50660) rfl rfl) rfl (jinb_of (by decide)) (by decide) ?_
              refine x_iinc (x := 70) (v := 71) (ls' := [(9, .int 71), (8, .int 20), (7, .int 0), (6, .int 1), (0, .ref 125), (1, .int a1), (2, .int a2), (3, .int a3), (4, .int a4), (5, .int a5)]) rfl rfl (by decide) rfl rfl ?_
              refine x_goto (tgt := 117) rfl rfl ?_
              refine x_iload (x := 71) rfl rfl ?_
              refine x_bipush (v := 90) rfl kb_90 ?_
              refine x_icge (tgt := 141) rfl rfl (br_f (by decide) ?_)
              refine x_aloadn (x := 125) rfl rfl ?_
              refine x_getR (b := 126) 12 2 rfl f_12_8 rfl (congrArg Prod.fst (F.1 125 (12, 92) rfl rfl)) (F.2.1 16002 126 rfl rfl) ?_
              refine x_iload (x := 20) rfl rfl ?_
              refine x_iload (x := 71) rfl rfl ?_
              refine y_iadd (v := 91) rfl (by decide) ?_
              refine x_iconst (v := 0) rfl ki_0 ?_
              refine y_iast (N := 50660) 91 rfl (F.1 126 (100, 50660) rfl rfl) rfl (jinb_of (by decide)) (by decide) ?_
              refine x_iinc (x := 71) (v := 72) (ls' := [(9, .int 72), (8, .int 20), (7, .int 0), (6, .int 1), (0, .ref 125), (1, .int a1), (2, .int a2), (3, .int a3), (4, .int a4), (5, .int a5)]) rfl rfl (by decide) rfl rfl ?_
              refine x_goto (tgt := 117) rfl rfl ?_
              refine x_iload (x := 72) rfl rfl ?_
              refine x_bipush (v := 90) rfl kb_90 ?_
              refine x_icge (tgt := 141) rfl rfl (br_f (by decide) ?_)
              refine x_aloadn (x := 125) rfl rfl ?_
              refine x_getR (b := 126) 12 2 rfl f_12_8 rfl (congrArg Prod.fst (F.1 125 (12, 92) rfl rfl)) (F.2.1 16002 126 rfl rfl) ?_
              refine x_iload (x := 20) rfl rfl ?_
              refine x_iload (x := 72) rfl rfl ?_
              refine y_iadd (v := 92) rfl (by decide) ?_
              refine x_iconst (v := 0) rfl ki_0 ?_
              refine y_iast (N := 50660) 92 rfl (F.1 126 (100, 50660) rfl rfl) rfl (jinb_of (by decide)) (by decide) ?_
              refine x_iinc (x := 72) (v := 73) (ls' := [(9, .int 73), (8, .int 20), (7, .int 0), (6, .int 1), (0, .ref 125), (1, .int a1), (2, .int a2), (3, .int a3), (4, .int a4), (5, .int a5)]) rfl rfl (by decide) rfl rfl ?_
              refine x_goto (tgt := 117) rfl rfl ?_
              refine x_iload (x := 73) rfl rfl ?_
              refine x_bipush (v := 90) rfl kb_90 ?_
              refine x_icge (tgt := 141) rfl rfl (br_f (by decide) ?_)
              refine x_aloadn (x := 125) rfl rfl ?_
              refine x_getR (b := 126) 12 2 rfl f_12_8 rfl (congrArg Prod.fst (F.1 125 (12, 92) rfl rfl)) (F.2.1 16002 126 rfl rfl) ?_
              refine x_iload (x := 20) rfl rfl ?_
              refine x_iload (x := 73) rfl rfl ?_
              refine y_iadd (v := 93) rfl (by decide) ?_
              refine x_iconst (v := 0) rfl ki_0 ?_
              refine y_iast (N := 50660) 93 rfl (F.1 126 (100, 50660) rfl rfl) rfl (jinb_of (by decide)) (by decide) ?_
              refine x_iinc (x := 73) (v := 74) (ls' := [(9, .int 74), (8, .int 20), (7, .int 0), (6, .int 1), (0, .ref 125), (1, .int a1), (2, .int a2), (3, .int a3), (4, .int a4), (5, .int a5)]) rfl rfl (by decide) rfl rfl ?_
              refine x_goto (tgt := 117) rfl rfl ?_
              refine x_iload (x := 74) rfl rfl ?_
              refine x_bipush (v := 90) rfl kb_90 ?_
              refine x_icge (tgt := 141) rfl rfl (br_f (by decide) ?_)
              refine x_aloadn (x := 125) rfl rfl ?_
              refine x_getR (b := 126) 12 2 rfl f_12_8 rfl (congrArg Prod.fst (F.1 125 (12, 92) rfl rfl)) (F.2.1 16002 126 rfl rfl) ?_
              refine x_iload (x := 20) rfl rfl ?_
              refine x_iload (x := 74) rfl rfl ?_
              refine y_iadd (v := 94) rfl (by decide) ?_
              refine x_iconst (v := 0) rfl ki_0 ?_
              refine y_iast (N := 50660) 94 rfl (F.1 126 (100, 50660) rfl rfl) rfl (jinb_of (by decide)) (by decide) ?_
              refine x_iinc (x := 74) (v := 75) (ls' := [(9, .int 75), (8, .int 20), (7, .int 0), (6, .int 1), (0, .ref 125), (1, .int a1), (2, .int a2), (3, .int a3), (4, .int a4), (5, .int a5)]) rfl rfl (by decide) rfl rfl ?_
              refine x_goto (tgt := 117) rfl rfl ?_
              refine x_iload (x := 75) rfl rfl ?_
              refine x_bipush (v := 90) rfl kb_90 ?_
              refine x_icge (tgt := 141) rfl rfl (br_f (by decide) ?_)
              refine x_aloadn (x := 125) rfl rfl ?_
              refine x_getR (b := 126) 12 2 rfl f_12_8 rfl (congrArg Prod.fst (F.1 125 (12, 92) rfl rfl)) (F.2.1 16002 126 rfl rfl) ?_
              refine x_iload (x := 20) rfl rfl ?_
              refine x_iload (x := 75) rfl rfl ?_
              refine y_iadd (v := 95) rfl (by decide) ?_
              refine x_iconst (v := 0) rfl ki_0 ?_
              refine y_iast (N := 50660) 95 rfl (F.1 126 (100, 50660) rfl rfl) rfl (jinb_of (by decide)) (by decide) ?_
              refine x_iinc (x := 75) (v := 76) (ls' := [(9, .int 76), (8, .int 20), (7, .int 0), (6, .int 1), (0, .ref 125), (1, .int a1), (2, .int a2), (3, .int a3), (4, .int a4), (5, .int a5)]) rfl rfl (by decide) rfl rfl ?_
              refine x_goto (tgt := 117) rfl rfl ?_
              refine x_iload (x := 76) rfl rfl ?_
              refine x_bipush (v := 90) rfl kb_90 ?_
              refine x_icge (tgt := 141) rfl rfl (br_f (by decide) ?_)
              refine x_aloadn (x := 125) rfl rfl ?_
              refine x_getR (b := 126) 12 2 rfl f_12_8 rfl (congrArg Prod.fst (F.1 125 (12, 92) rfl rfl)) (F.2.1 16002 126 rfl rfl) ?_
              refine x_iload (x := 20) rfl rfl ?_
              refine x_iload (x := 76) rfl rfl ?_
              refine y_iadd (v := 96) rfl (by decide) ?_
              refine x_iconst (v := 0) rfl ki_0 ?_
              refine y_iast (N := 50660) 96 rfl (F.1 126 (100, 50660) rfl rfl) rfl (jinb_of (by decide)) (by decide) ?_
              refine x_iinc (x := 76) (v := 77) (ls' := [(9, .int 77), (8, .int 20), (7, .int 0), (6, .int 1), (0, .ref 125), (1, .int a1), (2, .int a2), (3, .int a3), (4, .int a4), (5, .int a5)]) rfl rfl (by decide) rfl rfl ?_
              refine x_goto (tgt := 117) rfl rfl ?_
              refine x_iload (x := 77) rfl rfl ?_
              refine x_bipush (v := 90) rfl kb_90 ?_
              refine x_icge (tgt := 141) rfl rfl (br_f (by decide) ?_)
              refine x_aloadn (x := 125) rfl rfl ?_
              refine x_getR (b := 126) 12 2 rfl f_12_8 rfl (congrArg Prod.fst (F.1 125 (12, 92) rfl rfl)) (F.2.1 16002 126 rfl rfl) ?_
              refine x_iload (x := 20) rfl rfl ?_
              refine x_iload (x := 77) rfl rfl ?_
              refine y_iadd (v := 97) rfl (by decide) ?_
              refine x_iconst (v := 0) rfl ki_0 ?_
              refine y_iast (N := 50660) 97 rfl (F.1 126 (100, 50660) rfl rfl) rfl (jinb_of (by decide)) (by decide) ?_
              refine x_iinc (x := 77) (v := 78) (ls' := [(9, .int 78), (8, .int 20), (7, .int 0), (6, .int 1), (0, .ref 125), (1, .int a1), (2, .int a2), (3, .int a3), (4, .int a4), (5, .int a5)]) rfl rfl (by decide) rfl rfl ?_
              refine x_goto (tgt := 117) rfl rfl ?_
              refine x_iload (x := 78) rfl rfl ?_
              refine x_bipush (v := 90) rfl kb_90 ?_
              refine x_icge (tgt := 141) rfl rfl (br_f (by decide) ?_)
              refine x_aloadn (x := 125) rfl rfl ?_
              refine x_getR (b := 126) 12 2 rfl f_12_8 rfl (congrArg Prod.fst (F.1 125 (12, 92) rfl rfl)) (F.2.1 16002 126 rfl rfl) ?_
              refine x_iload (x := 20) rfl rfl ?_
              refine x_iload (x := 78) rfl rfl ?_
              refine y_iadd (v := 98) rfl (by decide) ?_
              refine x_iconst (v := 0) rfl ki_0 ?_
              refine y_iast (N := 50660) 98 rfl (F.1 126 (100, 50660) rfl rfl) rfl (jinb_of (by decide)) (by decide) ?_
              refine x_iinc (x := 78) (v := 79) (ls' := [(9, .int 79), (8, .int 20), (7, .int 0), (6, .int 1), (0, .ref 125), (1, .int a1), (2, .int a2), (3, .int a3), (4, .int a4), (5, .int a5)]) rfl rfl (by decide) rfl rfl ?_
              refine x_goto (tgt := 117) rfl rfl ?_
              refine x_iload (x := 79) rfl rfl ?_
              refine x_bipush (v := 90) rfl kb_90 ?_
              refine x_icge (tgt := 141) rfl rfl (br_f (by decide) ?_)
              refine x_aloadn (x := 125) rfl rfl ?_
              refine x_getR (b := 126) 12 2 rfl f_12_8 rfl (congrArg Prod.fst (F.1 125 (12, 92) rfl rfl)) (F.2.1 16002 126 rfl rfl) ?_
              refine x_iload (x := 20) rfl rfl ?_
              refine x_iload (x := 79) rfl rfl ?_
              refine y_iadd (v := 99) rfl (by decide) ?_
              refine x_iconst (v := 0) rfl ki_0 ?_
              refine y_iast (N := 50660) 99 rfl (F.1 126 (100, 50660) rfl rfl) rfl (jinb_of (by decide)) (by decide) ?_
              refine x_iinc (x := 79) (v := 80) (ls' := [(9, .int 80), (8, .int 20), (7, .int 0), (6, .int 1), (0, .ref 125), (1, .int a1), (2, .int a2), (3, .int a3), (4, .int a4), (5, .int a5)]) rfl rfl (by decide) rfl rfl ?_
              refine x_goto (tgt := 117) rfl rfl ?_
              refine x_iload (x := 80) rfl rfl ?_
              refine x_bipush (v := 90) rfl kb_90 ?_
              refine x_icge (tgt := 141) rfl rfl (br_f (by decide) ?_)
              refine x_aloadn (x := 125) rfl rfl ?_
              refine x_getR (b := 126) 12 2 rfl f_12_8 rfl (congrArg Prod.fst (F.1 125 (12, 92) rfl rfl)) (F.2.1 16002 126 rfl rfl) ?_
              refine x_iload (x := 20) rfl rfl ?_
              refine x_iload (x := 80) rfl rfl ?_
              refine y_iadd (v := 100) rfl (by decide) ?_
              refine x_iconst (v := 0) rfl ki_0 ?_
              refine y_iast (N := 50660) 100 rfl (F.1 126 (100, 50660) rfl rfl) rfl (jinb_of (by decide)) (by decide) ?_
              refine x_iinc (x := 80) (v := 81) (ls' := [(9, .int 81), (8, .int 20), (7, .int 0), (6, .int 1), (0, .ref 125), (1, .int a1), (2, .int a2), (3, .int a3), (4, .int a4), (5, .int a5)]) rfl rfl (by decide) rfl rfl ?_
              refine x_goto (tgt := 117) rfl rfl ?_
              refine x_iload (x := 81) rfl rfl ?_
              refine x_bipush (v := 90) rfl kb_90 ?_
              refine x_icge (tgt := 141) rfl rfl (br_f (by decide) ?_)
              refine x_aloadn (x := 125) rfl rfl ?_
              refine x_getR (b := 126) 12 2 rfl f_12_8 rfl (congrArg Prod.fst (F.1 125 (12, 92) rfl rfl)) (F.2.1 16002 126 rfl rfl) ?_
              refine x_iload (x := 20) rfl rfl ?_
              refine x_iload (x := 81) rfl rfl ?_
              refine y_iadd (v := 101) rfl (by decide) ?_
              refine x_iconst (v := 0) rfl ki_0 ?_
              refine y_iast (N := 50660) 101 rfl (F.1 126 (100, 50660) rfl rfl) rfl (jinb_of (by decide)) (by decide) ?_
              refine x_iinc (x := 81) (v := 82) (ls' := [(9, .int 82), (8, .int 20), (7, .int 0), (6, .int 1), (0, .ref 125), (1, .int a1), (2, .int a2), (3, .int a3), (4, .int a4), (5, .int a5)]) rfl rfl (by decide) rfl rfl ?_
              refine x_goto (tgt := 117) rfl rfl ?_
              refine x_iload (x := 82) rfl rfl ?_
              refine x_bipush (v := 90) rfl kb_90 ?_
              refine x_icge (tgt := 141) rfl rfl (br_f (by decide) ?_)
              refine x_aloadn (x := 125) rfl rfl ?_
              refine x_getR (b := 126) 12 2 rfl f_12_8 rfl (congrArg Prod.fst (F.1 125 (12, 92) rfl rfl)) (F.2.1 16002 126 rfl rfl) ?_
              refine x_iload (x := 20) rfl rfl ?_
              refine x_iload (x := 82) rfl rfl ?_
              refine y_iadd (v := 102) rfl (by decide) ?_
              refine x_iconst (v := 0) rfl ki_0 ?_
              refine y_iast (N := 50660) 102 rfl (F.1 126 (100, 50660) rfl rfl) rfl (jinb_of (by decide)) (by decide) ?_
              refine x_iinc (x := 82) (v := 83) (ls' := [(9, .int 83), (8, .int 20), (7, .int 0), (6, .int 1), (0, .ref 125), (1, .int a1), (2, .int a2), (3, .int a3), (4, .int a4), (5, .int a5)]) rfl rfl (by decide) rfl rfl ?_
              refine x_goto (tgt := 117) rfl rfl ?_
              refine x_iload (x := 83) rfl rfl ?_
              refine x_bipush (v := 90) rfl kb_90 ?_
              refine x_icge (tgt := 141) rfl rfl (br_f (by decide) ?_)
              refine x_aloadn (x := 125) rfl rfl ?_
              refine x_getR (b := 126) 12 2 rfl f_12_8 rfl (congrArg Prod.fst (F.1 125 (12, 92) rfl rfl)) (F.2.1 16002 126 rfl rfl) ?_
              refine x_iload (x := 20) rfl rfl ?_
              refine x_iload (x := 83) rfl rfl ?_
              refine y_iadd (v := 103) rfl (by decide) ?_
              refine x_iconst (v := 0) rfl ki_0 ?_
              refine y_iast (N := 50660) 103 rfl (F.1 126 (100, 50660) rfl rfl) rfl (jinb_of (by decide)) (by decide) ?_
              refine x_iinc (x := 83) (v := 84) (ls' := [(9, .int 84), (8, .int 20), (7, .int 0), (6, .int 1), (0, .ref 125), (1, .int a1), (2, .int a2), (3, .int a3), (4, .int a4), (5, .int a5)]) rfl rfl (by decide) rfl rfl ?_
              refine x_goto (tgt := 117) rfl rfl ?_
              refine x_iload (x := 84) rfl rfl ?_
              refine x_bipush (v := 90) rfl kb_90 ?_
              refine x_icge (tgt := 141) rfl rfl (br_f (by decide) ?_)
              refine x_aloadn (x := 125) rfl rfl ?_
              refine x_getR (b := 126) 12 2 rfl f_12_8 rfl (congrArg Prod.fst (F.1 125 (12, 92) rfl rfl)) (F.2.1 16002 126 rfl rfl) ?_
              refine x_iload (x := 20) rfl rfl ?_
              refine x_iload (x := 84) rfl rfl ?_
              refine y_iadd (v := 104) rfl (by decide) ?_
              refine x_iconst (v := 0) rfl ki_0 ?_
              refine y_iast (N := 50660) 104 rfl (F.1 126 (100, 50660) rfl rfl) rfl (jinb_of (by decide)) (by decide) ?_
              refine x_iinc (x := 84) (v := 85) (ls' := [(9, .int 85), (8, .int 20), (7, .int 0), (6, .int 1), (0, .ref 125), (1, .int a1), (2, .int a2), (3, .int a3), (4, .int a4), (5, .int a5)]) rfl rfl (by decide) rfl rfl ?_
              refine x_goto (tgt := 117) rfl rfl ?_
              refine x_iload (x := 85) rfl rfl ?_
              refine x_bipush (v := 90) rfl kb_90 ?_
              refine x_icge (tgt := 141) rfl rfl (br_f (by decide) ?_)
              refine x_aloadn (x := 125) rfl rfl ?_
              refine x_getR (b := 126) 12 2 rfl f_12_8 rfl (congrArg Prod.fst (F.1 125 (12, 92) rfl rfl)) (F.2.1 16002 126 rfl rfl) ?_
              refine x_iload (x := 20) rfl rfl ?_
              refine x_iload (x := 85) rfl rfl ?_
              refine y_iadd (v := 105) rfl (by decide) ?_
              refine x_iconst (v := 0) rfl ki_0 ?_
              refine y_iast (N := 50660) 105 rfl (F.1 126 (100, 50660) rfl rfl) rfl (jinb_of (by decide)) (by decide) ?_
              refine x_iinc (x := 85) (v := 86) (ls' := [(9, .int 86), (8, .int 20), (7, .int 0), (6, .int 1), (0, .ref 125), (1, .int a1), (2, .int a2), (3, .int a3), (4, .int a4), (5, .int a5)]) rfl rfl (by decide) rfl rfl ?_
              refine x_goto (tgt := 117) rfl rfl ?_
              refine x_iload (x := 86) rfl rfl ?_
              refine x_bipush (v := 90) rfl kb_90 ?_
              refine x_icge (tgt := 141) rfl rfl (br_f (by decide) ?_)
              refine x_aloadn (x := 125) rfl rfl ?_
              refine x_getR (b := 126) 12 2 rfl f_12_8 rfl (congrArg Prod.fst (F.1 125 (12, 92) rfl rfl)) (F.2.1 16002 126 rfl rfl) ?_
              refine x_iload (x := 20) rfl rfl ?_
              refine x_iload (x := 86) rfl rfl ?_
              refine y_iadd (v := 106) rfl (by decide) ?_
              refine x_iconst (v := 0) rfl ki_0 ?_
              refine y_iast (N := 50660) 106 rfl (F.1 126 (100, 50660) rfl rfl) rfl (jinb_of (by decide)) (by decide) ?_
              refine x_iinc (x := 86) (v := 87) (ls' := [(9, .int 87), (8, .int 20), (7, .int 0), (6, .int 1), (0, .ref 125), (1, .int a1), (2, .int a2), (3, .int a3), (4, .int a4), (5, .int a5)]) rfl rfl (by decide) rfl rfl ?_
              refine x_goto (tgt := 117) rfl rfl ?_
              refine x_iload (x := 87) rfl rfl ?_
              refine x_bipush (v := 90) rfl kb_90 ?_
              refine x_icge (tgt := 141) rfl rfl (br_f (by decide) ?_)
              refine x_aloadn (x := 125) rfl rfl ?_
              refine x_getR (b := 126) 12 2 rfl f_12_8 rfl (congrArg Prod.fst (F.1 125 (12, 92) rfl rfl)) (F.2.1 16002 126 rfl rfl) ?_
              refine x_iload (x := 20) rfl rfl ?_
              refine x_iload (x := 87) rfl rfl ?_
              refine y_iadd (v := 107) rfl (by decide) ?_
              refine x_iconst (v := 0) rfl ki_0 ?_
              refine y_iast (N := 50660) 107 rfl (F.1 126 (100, 50660) rfl rfl) rfl (jinb_of (by decide)) (by decide) ?_
              refine x_iinc (x := 87) (v := 88) (ls' := [(9, .int 88), (8, .int 20), (7, .int 0), (6, .int 1), (0, .ref 125), (1, .int a1), (2, .int a2), (3, .int a3), (4, .int a4), (5, .int a5)]) rfl rfl (by decide) rfl rfl ?_
              refine x_goto (tgt := 117) rfl rfl ?_
              refine x_iload (x := 88) rfl rfl ?_
              refine x_bipush (v := 90) rfl kb_90 ?_
              refine x_icge (tgt := 141) rfl rfl (br_f (by decide) ?_)
              refine x_aloadn (x := 125) rfl rfl ?_
              refine x_getR (b := 126) 12 2 rfl f_12_8 rfl (congrArg Prod.fst (F.1 125 (12, 92) rfl rfl)) (F.2.1 16002 126 rfl rfl) ?_
              refine x_iload (x := 20) rfl rfl ?_
              refine x_iload (x := 88) rfl rfl ?_
              refine y_iadd (v := 108) rfl (by decide) ?_
              refine x_iconst (v := 0) rfl ki_0 ?_
              refine y_iast (N := 50660) 108 rfl (F.1 126 (100, 50660) rfl rfl) rfl (jinb_of (by decide)) (by decide) ?_
              refine x_iinc (x := 88) (v := 89) (ls' := [(9, .int 89), (8, .int 20), (7, .int 0), (6, .int 1), (0, .ref 125), (1, .int a1), (2, .int a2), (3, .int a3), (4, .int a4), (5, .int a5)]) rfl rfl (by decide) rfl rfl ?_
              refine x_goto (tgt := 117) rfl rfl ?_
              refine x_iload (x := 89) rfl rfl ?_
              refine x_bipush (v := 90) rfl kb_90 ?_
              refine x_icge (tgt := 141) rfl rfl (br_f (by decide) ?_)
              refine x_aloadn (x := 125) rfl rfl ?_
              refine x_getR (b := 126) 12 2 rfl f_12_8 rfl (congrArg Prod.fst (F.1 125 (12, 92) rfl rfl)) (F.2.1 16002 126 rfl rfl) ?_
              refine x_iload (x := 20) rfl rfl ?_
              refine x_iload (x := 89) rfl rfl ?_
              refine y_iadd (v := 109) rfl (by decide) ?_
              refine x_iconst (v := 0) rfl ki_0 ?_
              refine y_iast (N := 50660) 109 rfl (F.1 126 (100, 50660) rfl rfl) rfl (jinb_of (by decide)) (by decide) ?_
              refine x_iinc (x := 89) (v := 90) (ls' := [(9, .int 90), (8, .int 20), (7, .int 0), (6, .int 1), (0, .ref 125), (1, .int a1), (2, .int a2), (3, .int a3), (4, .int a4), (5, .int a5)]) rfl rfl (by decide) rfl rfl ?_
              refine x_goto (tgt := 117) rfl rfl ?_
              refine x_iload (x := 90) rfl rfl ?_
              refine x_bipush (v := 90) rfl kb_90 ?_
              refine x_icge (tgt := 141) rfl rfl (br_t (by decide) ?_)
              refine x_aloadn (x := 125) rfl rfl ?_
              refine x_inv (N := m_X12_begin) (As := []) (b := 125) (st := []) (d' := 99) (mc := 0) (ms := 0) (host := "") 12 rfl t_X12_begin ⟨Or.inl q_12_280, i_X12_begin.1, i_X12_begin.2⟩ ⟨by decide, rfl⟩ (congrArg Prod.fst (F.1 125 (12, 92) rfl rfl)) rfl (by decide) rfl rfl ⟨by decide, by decide⟩ (jC.of rfl k_X12_begin rfl ?_)
              show jX m_X12_begin 99 0 0 0 [(0, .ref 125)] [] _ 0 0 _
              refine x_aloadn (x := 125) rfl rfl ?_
              refine x_iconst (v := 0) rfl ki_0 ?_
              refine x_putI 12 10 rfl f_12_211 rfl (jfin_no TX12 RX12 92 rfl rfl) (congrArg Prod.fst (F.1 125 (12, 92) rfl rfl)) rfl ?_
              refine x_aloadn (x := 125) rfl rfl ?_
              refine x_iconst (v := 0) rfl ki_0 ?_
              refine x_putZ 12 14 rfl f_12_214 rfl (jfin_no TX12 RX12 92 rfl rfl) (congrArg Prod.fst (F.1 125 (12, 92) rfl rfl)) rfl (by decide) ?_
              refine x_aloadn (x := 125) rfl rfl ?_
              refine x_iconst (v := (-1)) rfl ki_m1 ?_
              refine x_putI 12 13 rfl f_12_32 rfl (jfin_no TX12 RX12 92 rfl rfl) (congrArg Prod.fst (F.1 125 (12, 92) rfl rfl)) rfl ?_
              refine x_aloadn (x := 125) rfl rfl ?_
              refine x_inv (N := m_X12_next) (As := []) (b := 125) (st := []) (d' := 98) (mc := 0) (ms := 0) (host := "") 12 rfl t_X12_next ⟨Or.inl q_12_218, i_X12_next.1, i_X12_next.2⟩ ⟨by decide, rfl⟩ (congrArg Prod.fst (F.1 125 (12, 92) rfl rfl)) rfl (by decide) rfl rfl ⟨by decide, by decide⟩ (jC.of rfl k_X12_next rfl ?_)
              show jX m_X12_next 98 0 0 0 [(0, .ref 125)] [] _ 0 0 _
              refine x_aloadn (x := 125) rfl rfl ?_
              refine x_aloadn (x := 125) rfl rfl ?_
              refine y_getI (v := 0) 12 10 rfl f_12_211 rfl (congrArg Prod.fst (F.1 125 (12, 92) rfl rfl)) rfl ?_
              refine x_putI 12 9 rfl f_12_221 rfl (jfin_no TX12 RX12 92 rfl rfl) (congrArg Prod.fst (F.1 125 (12, 92) rfl rfl)) rfl ?_
              refine x_aloadn (x := 125) rfl rfl ?_
              refine y_getI (v := 0) 12 9 rfl f_12_221 rfl (congrArg Prod.fst (F.1 125 (12, 92) rfl rfl)) rfl ?_
              refine x_aloadn (x := 125) rfl rfl ?_
              refine y_getI (v := 0) 12 8 rfl f_12_201 rfl (congrArg Prod.fst (F.1 125 (12, 92) rfl rfl)) (F.2.2.1 16008 0 rfl rfl) ?_
              refine x_icge (tgt := 46) rfl rfl (br_t (by decide) ?_)
              refine x_aloadn (x := 125) rfl rfl ?_
              refine x_aloadn (x := 125) rfl rfl ?_
              refine y_getI (v := 0) 12 9 rfl f_12_221 rfl (congrArg Prod.fst (F.1 125 (12, 92) rfl rfl)) rfl ?_
              refine x_putI 12 10 rfl f_12_211 rfl (jfin_no TX12 RX12 92 rfl rfl) (congrArg Prod.fst (F.1 125 (12, 92) rfl rfl)) rfl ?_
              refine x_aloadn (x := 125) rfl rfl ?_
              refine x_lconst (v := 0) rfl kl_0 ?_
              refine x_putL 12 12 rfl f_12_224 rfl (jfin_no TX12 RX12 92 rfl rfl) (congrArg Prod.fst (F.1 125 (12, 92) rfl rfl)) rfl ?_
              refine x_aloadn (x := 125) rfl rfl ?_
              refine x_aloadn (x := 125) rfl rfl ?_
              refine y_getI (v := 0) 12 9 rfl f_12_221 rfl (congrArg Prod.fst (F.1 125 (12, 92) rfl rfl)) rfl ?_
              refine x_aloadn (x := 125) rfl rfl ?_
              refine y_getI (v := 0) 12 8 rfl f_12_201 rfl (congrArg Prod.fst (F.1 125 (12, 92) rfl rfl)) (F.2.2.1 16008 0 rfl rfl) ?_
              refine x_icne (tgt := 75) rfl rfl (bn_f (by decide) ?_)
              refine x_iconst (v := 0) rfl ki_0 ?_
              refine x_goto (tgt := 114) rfl rfl ?_
              refine x_putI 12 11 rfl f_12_235 rfl (jfin_no TX12 RX12 92 rfl rfl) (congrArg Prod.fst (F.1 125 (12, 92) rfl rfl)) rfl ?_
              refine x_aloadn (x := 125) rfl rfl ?_
              refine y_getI (v := 0) 12 11 rfl f_12_235 rfl (congrArg Prod.fst (F.1 125 (12, 92) rfl rfl)) rfl ?_
              refine x_iconst (v := 3) rfl ki_3 ?_
              refine x_icne (tgt := 149) rfl rfl (bn_t (by decide) ?_)
              refine x_aloadn (x := 125) rfl rfl ?_
              refine y_getI (v := 0) 12 11 rfl f_12_235 rfl (congrArg Prod.fst (F.1 125 (12, 92) rfl rfl)) rfl ?_
              refine x_iconst (v := 1) rfl ki_1 ?_
              refine x_icne (tgt := 243) rfl rfl (bn_t (by decide) ?_)
              refine x_aloadn (x := 125) rfl rfl ?_
              refine y_getI (v := 0) 12 11 rfl f_12_235 rfl (congrArg Prod.fst (F.1 125 (12, 92) rfl rfl)) rfl ?_
              refine x_iconst (v := 2) rfl ki_2 ?_
              refine x_icne (tgt := 335) rfl rfl (bn_t (by decide) ?_)
              refine x_vret rfl rfl ?_
              show jX m_X12_begin 99 0 0 19 [(0, .ref 125)] [] _ 0 0 _
              refine x_vret rfl rfl ?_
              show jX m_X12_line 100 0 0 145 [(9, .int 90), (8, .int 20), (7, .int 0), (6, .int 1), (0, .ref 125), (1, .int a1), (2, .int a2), (3, .int a3), (4, .int a4), (5, .int a5)] [] _ 0 0 _
              refine x_iconst (v := 0) rfl ki_0 ?_
              refine x_istore (ls' := [(9, .int 0), (8, .int 20), (7, .int 0), (6, .int 1), (0, .ref 125), (1, .int a1), (2, .int a2), (3, .int a3), (4, .int a4), (5, .int a5)]) rfl rfl rfl ?_
              refine x_aloadn (x := 125) rfl rfl ?_
              refine y_getI (v := 0) 12 11 rfl f_12_235 rfl (congrArg Prod.fst (F.1 125 (12, 92) rfl rfl)) rfl ?_
              refine x_ifeq (tgt := 168) rfl rfl (br_t (by decide) ?_)
              refine x_iconst (v := 0) rfl ki_0 ?_
              refine x_istore (ls' := [(10, .int 0), (9, .int 0), (8, .int 20), (7, .int 0), (6, .int 1), (0, .ref 125), (1, .int a1), (2, .int a2), (3, .int a3), (4, .int a4), (5, .int a5)]) rfl rfl rfl ?_
              refine x_iload (x := 0) rfl rfl ?_
              refine x_ifeq (tgt := 250) rfl rfl (br_t (by decide) ?_)
              refine x_aloadn (x := 125) rfl rfl ?_
              refine y_getI (v := 0) 12 14 rfl f_12_214 rfl (congrArg Prod.fst (F.1 125 (12, 92) rfl rfl)) rfl ?_
              refine x_ifne (tgt := 268) rfl rfl (bn_f (by decide) ?_)
              refine x_aloadn (x := 125) rfl rfl ?_
              refine y_getI (v := 0) 12 11 rfl f_12_235 rfl (congrArg Prod.fst (F.1 125 (12, 92) rfl rfl)) rfl ?_
              refine x_ifeq (tgt := 268) rfl rfl (br_t (by decide) ?_)
              refine x_iconst (v := 0) rfl ki_0 ?_
              refine x_istore (ls' := [(11, .int 0), (10, .int 0), (9, .int 0), (8, .int 20), (7, .int 0), (6, .int 1), (0, .ref 125), (1, .int a1), (2, .int a2), (3, .int a3), (4, .int a4), (5, .int a5)]) rfl rfl rfl ?_
              refine x_iload (x := 0) rfl rfl ?_
              refine x_ifeq (tgt := 305) rfl rfl (br_t (by decide) ?_)
              refine x_aloadn (x := 125) rfl rfl ?_
              refine x_iconst (v := 0) rfl ki_0 ?_
              refine x_putI 12 8 rfl f_12_201 rfl (jfin_no TX12 RX12 92 rfl rfl) (congrArg Prod.fst (F.1 125 (12, 92) rfl rfl)) rfl ?_
              refine x_aloadn (x := 125) rfl rfl ?_
              refine y_getI (v := 0) 12 14 rfl f_12_214 rfl (congrArg Prod.fst (F.1 125 (12, 92) rfl rfl)) rfl ?_
              refine x_ifeq (tgt := 324) rfl rfl (br_t (by decide) ?_)
              refine x_aloadn (x := 125) rfl rfl ?_
              refine x_getR (b := 126) 12 2 rfl f_12_8 rfl (congrArg Prod.fst (F.1 125 (12, 92) rfl rfl)) (F.2.1 16002 126 rfl rfl) ?_
              refine x_iload (x := 20) rfl rfl ?_
              refine x_iloadn (x := a1) rfl rfl ?_
              refine y_iast (N := 50660) 20 rfl (F.1 126 (100, 50660) rfl rfl) rfl (jinb_of (by decide)) (by decide) ?_
              refine x_aloadn (x := 125) rfl rfl ?_
              refine x_getR (b := 126) 12 2 rfl f_12_8 rfl (congrArg Prod.fst (F.1 125 (12, 92) rfl rfl)) (F.2.1 16002 126 rfl rfl) ?_
              refine x_iload (x := 20) rfl rfl ?_
              refine x_iconst (v := 1) rfl ki_1 ?_
              refine y_iadd (v := 21) rfl (by decide) ?_
              refine x_iloadn (x := a2) rfl rfl ?_
              refine y_iast (N := 50660) 21 rfl (F.1 126 (100, 50660) rfl rfl) rfl (jinb_of (by decide)) (by decide) ?_
              refine x_aloadn (x := 125) rfl rfl ?_
              refine x_getR (b := 126) 12 2 rfl f_12_8 rfl (congrArg Prod.fst (F.1 125 (12, 92) rfl rfl)) (F.2.1 16002 126 rfl rfl) ?_
              refine x_iload (x := 20) rfl rfl ?_
              refine x_iconst (v := 2) rfl ki_2 ?_
              refine y_iadd (v := 22) rfl (by decide) ?_
              refine x_iloadn (x := a3) rfl rfl ?_
              refine y_iast (N := 50660) 22 rfl (F.1 126 (100, 50660) rfl rfl) rfl (jinb_of (by decide)) (by decide) ?_
              refine x_aloadn (x := 125) rfl rfl ?_
              refine x_getR (b := 126) 12 2 rfl f_12_8 rfl (congrArg Prod.fst (F.1 125 (12, 92) rfl rfl)) (F.2.1 16002 126 rfl rfl) ?_
              refine x_iload (x := 20) rfl rfl ?_
              refine x_iconst (v := 3) rfl ki_3 ?_
              refine y_iadd (v := 23) rfl (by decide) ?_
              refine x_iload (x := a4) rfl rfl ?_
              refine y_iast (N := 50660) 23 rfl (F.1 126 (100, 50660) rfl rfl) rfl (jinb_of (by decide)) (by decide) ?_
              refine x_aloadn (x := 125) rfl rfl ?_
              refine x_getR (b := 126) 12 2 rfl f_12_8 rfl (congrArg Prod.fst (F.1 125 (12, 92) rfl rfl)) (F.2.1 16002 126 rfl rfl) ?_
              refine x_iload (x := 20) rfl rfl ?_
              refine x_iconst (v := 4) rfl ki_4 ?_
              refine y_iadd (v := 24) rfl (by decide) ?_
              refine x_iload (x := a5) rfl rfl ?_
              refine y_iast (N := 50660) 24 rfl (F.1 126 (100, 50660) rfl rfl) rfl (jinb_of (by decide)) (by decide) ?_
              refine x_aloadn (x := 125) rfl rfl ?_
              refine x_getR (b := 126) 12 2 rfl f_12_8 rfl (congrArg Prod.fst (F.1 125 (12, 92) rfl rfl)) (F.2.1 16002 126 rfl rfl) ?_
              refine x_iload (x := 20) rfl rfl ?_
              refine x_iconst (v := 5) rfl ki_5 ?_
              refine y_iadd (v := 25) rfl (by decide) ?_
              refine x_iload (x := 0) rfl rfl ?_
              refine x_ifeq (tgt := 391) rfl rfl (br_t (by decide) ?_)
              refine x_iconst (v := 1) rfl ki_1 ?_
              refine y_iast (N := 50660) 25 rfl (F.1 126 (100, 50660) rfl rfl) rfl (jinb_of (by decide)) (by decide) ?_
              refine x_aloadn (x := 125) rfl rfl ?_
              refine x_getR (b := 126) 12 2 rfl f_12_8 rfl (congrArg Prod.fst (F.1 125 (12, 92) rfl rfl)) (F.2.1 16002 126 rfl rfl) ?_
              refine x_iconst (v := 0) rfl ki_0 ?_
              refine x_dup2 rfl rfl rfl ?_
              refine y_iald (v := 0) (N := 50660) 0 rfl (F.1 126 (100, 50660) rfl rfl) (jinb_of (by decide)) (by decide) (F.2.2.2.1 126 rfl rfl 0).1 ?_
              refine x_iconst (v := 1) rfl ki_1 ?_
              refine y_iadd (v := 1) rfl (by decide) ?_
              refine y_iast (N := 50660) 0 rfl (F.1 126 (100, 50660) rfl rfl) rfl (jinb_of (by decide)) (by decide) ?_
              refine x_aloadn (x := 125) rfl rfl ?_
              refine x_iconst (v := 0) rfl ki_0 ?_
              refine x_iload (x := 0) rfl rfl ?_
              refine x_inv (N := m_X12_thing) (As := [.int 0, .int 0]) (b := 125) (st := []) (d' := 99) (mc := 0) (ms := 0) (host := "") 12 rfl t_X12_thing ⟨Or.inl q_12_289, i_X12_thing.1, i_X12_thing.2⟩ ⟨by decide, rfl⟩ (congrArg Prod.fst (F.1 125 (12, 92) rfl rfl)) rfl (by decide) rfl rfl ⟨by decide, by decide⟩ (jC.of rfl k_X12_thing rfl ?_)
              show jX m_X12_thing 99 0 0 0 [(0, .ref 125), (1, .int 0), (2, .int 0)] [] _ 0 0 _
              refine x_ldc (v := 49920) rfl z_12_194 ?_
              refine x_iconst (v := 2) rfl ki_2 ?_
              refine x_aloadn (x := 125) rfl rfl ?_
              refine x_getR (b := 126) 12 2 rfl f_12_8 rfl (congrArg Prod.fst (F.1 125 (12, 92) rfl rfl)) (F.2.1 16002 126 rfl rfl) ?_
              refine x_bipush (v := 16) rfl kb_16 ?_
              refine y_iald (v := 0) (N := 50660) 16 rfl (F.1 126 (100, 50660) rfl rfl) (jinb_of (by decide)) (by decide) (F.2.2.2.1 126 rfl rfl 16).1 ?_
              refine y_imul (v := 0) rfl (by decide) ?_
              refine y_iadd (v := 49920) rfl (by decide) ?_
              refine x_istoren (ls' := [(3, .int 49920), (0, .ref 125), (1, .int 0), (2, .int 0)]) rfl rfl rfl ?_
              refine x_aloadn (x := 125) rfl rfl ?_
              refine x_getR (b := 126) 12 2 rfl f_12_8 rfl (congrArg Prod.fst (F.1 125 (12, 92) rfl rfl)) (F.2.1 16002 126 rfl rfl) ?_
              refine x_iloadn (x := 49920) rfl rfl ?_
              refine x_iloadn (x := 0) rfl rfl ?_
              refine y_iast (N := 50660) 49920 rfl (F.1 126 (100, 50660) rfl rfl) rfl (jinb_of (by decide)) (by decide) ?_
              refine x_aloadn (x := 125) rfl rfl ?_
              refine x_getR (b := 126) 12 2 rfl f_12_8 rfl (congrArg Prod.fst (F.1 125 (12, 92) rfl rfl)) (F.2.1 16002 126 rfl rfl) ?_
              refine x_iloadn (x := 49920) rfl rfl ?_
              refine x_iconst (v := 1) rfl ki_1 ?_
              refine y_iadd (v := 49921) rfl (by decide) ?_
              refine x_iloadn (x := 0) rfl rfl ?_
              refine y_iast (N := 50660) 49921 rfl (F.1 126 (100, 50660) rfl rfl) rfl (jinb_of (by decide)) (by decide) ?_
              refine x_aloadn (x := 125) rfl rfl ?_
              refine x_getR (b := 126) 12 2 rfl f_12_8 rfl (congrArg Prod.fst (F.1 125 (12, 92) rfl rfl)) (F.2.1 16002 126 rfl rfl) ?_
              refine x_bipush (v := 16) rfl kb_16 ?_
              refine x_dup2 rfl rfl rfl ?_
              refine y_iald (v := 0) (N := 50660) 16 rfl (F.1 126 (100, 50660) rfl rfl) (jinb_of (by decide)) (by decide) (F.2.2.2.1 126 rfl rfl 16).1 ?_
              refine x_iconst (v := 1) rfl ki_1 ?_
              refine y_iadd (v := 1) rfl (by decide) ?_
              refine y_iast (N := 50660) 16 rfl (F.1 126 (100, 50660) rfl rfl) rfl (jinb_of (by decide)) (by decide) ?_
              refine x_vret rfl rfl ?_
              show jX m_X12_line 100 0 0 410 [(11, .int 0), (10, .int 0), (9, .int 0), (8, .int 20), (7, .int 0), (6, .int 1), (0, .ref 125), (1, .int a1), (2, .int a2), (3, .int a3), (4, .int a4), (5, .int a5)] [] _ 0 0 _
              refine x_aloadn (x := 125) rfl rfl ?_
              refine x_iload (x := 0) rfl rfl ?_
              refine x_inv (N := m_X12_told) (As := [.int 0]) (b := 125) (st := []) (d' := 99) (mc := 0) (ms := 0) (host := "") 12 rfl t_X12_told ⟨Or.inl q_12_197, i_X12_told.1, i_X12_told.2⟩ ⟨by decide, rfl⟩ (congrArg Prod.fst (F.1 125 (12, 92) rfl rfl)) rfl (by decide) rfl rfl ⟨by decide, by decide⟩ (jC.of rfl k_X12_told rfl ?_)
              show jX m_X12_told 99 0 0 0 [(0, .ref 125), (1, .int 0)] [] _ 0 0 _
              refine x_aloadn (x := 125) rfl rfl ?_
              refine x_iloadn (x := 0) rfl rfl ?_
              refine x_ifge (tgt := 9) rfl rfl (br_t (by decide) ?_)
              refine x_iconst (v := 0) rfl ki_0 ?_
              refine x_putI 12 1 rfl f_12_183 rfl (jfin_no TX12 RX12 92 rfl rfl) (congrArg Prod.fst (F.1 125 (12, 92) rfl rfl)) rfl ?_
              refine x_iloadn (x := 0) rfl rfl ?_
              refine x_iret rfl rfl ?_
              show jX m_X12_line 100 0 0 416 [(11, .int 0), (10, .int 0), (9, .int 0), (8, .int 20), (7, .int 0), (6, .int 1), (0, .ref 125), (1, .int a1), (2, .int a2), (3, .int a3), (4, .int a4), (5, .int a5)] [.int 0] _ 0 0 _
              refine x_iret rfl rfl ?_
              exact jqe (show sp_line a1 a2 a3 a4 a5 = 0 by unfold sp_line; (repeat' split) <;> first | rfl | (exfalso; omega)) (hQ _ (by repeat (first | exact O | refine jOl_si rfl ?_ | refine jOl_sl rfl ?_ | refine jOl_ci rfl ?_ | refine jOl_cl rfl ?_ | refine jOl_sr rfl ?_)))
          by_cases c11 : a1.toInt = 5
          ·
            refine x_tableIn (tgt := 54) 5 rfl c11 (by decide) (by decide) rfl rfl ?_
            refine x_iloadn (x := a5) rfl rfl ?_
            refine x_i2l rfl ?_
            refine x_lconst (v := 1) rfl kl_1 ?_
            refine x_ldc2 (v := 11) rfl z_12_267 ?_
            refine x_inst (N := m_X12_in) (As := [.long (a5.toInt64), .long 1, .long 11]) (st := []) (d' := 98) (mc := 0) (ms := 0) (host := "") rfl t_X12_in ⟨Or.inl q_12_188, s_X12_in⟩ rfl (by decide) rfl rfl ⟨by decide, by decide⟩ (c_X12_in (jt_l _) (by decide) (by decide) ?_)
            show jX m_X12_isNumber 99 0 0 63 [(0, .int a1), (1, .int a5)] [.int (jp (1 ≤ a5.toInt ∧ a5.toInt ≤ 11))] _ 0 0 _
            refine x_zret rfl rfl (by first | decide | exact jp_01 _) ?_
            show jX m_X12_line 100 0 0 50 [(0, .ref 125), (1, .int a1), (2, .int a2), (3, .int a3), (4, .int a4), (5, .int a5)] [.int (jp (1 ≤ a5.toInt ∧ a5.toInt ≤ 11))] _ 0 0 _
            refine x_ifeq (tgt := 57) rfl rfl (jpe ⟨fun c12 => ?_, fun c12 => ?_⟩)
            ·
              refine x_iconst (v := 0) rfl ki_0 ?_
              refine x_istore (ls' := [(6, .int 0), (0, .ref 125), (1, .int a1), (2, .int a2), (3, .int a3), (4, .int a4), (5, .int a5)]) rfl rfl rfl ?_
              refine x_iload (x := 0) rfl rfl ?_
              refine x_ifeq (tgt := 77) rfl rfl (br_t (by decide) ?_)
              refine x_aloadn (x := 125) rfl rfl ?_
              refine x_iconst (v := 0) rfl ki_0 ?_
              refine x_putI 12 8 rfl f_12_201 rfl (jfin_no TX12 RX12 92 rfl rfl) (congrArg Prod.fst (F.1 125 (12, 92) rfl rfl)) rfl ?_
              refine x_aloadn (x := 125) rfl rfl ?_
              refine x_iload (x := 0) rfl rfl ?_
              refine x_ifeq (tgt := 93) rfl rfl (br_t (by decide) ?_)
              refine x_iconst (v := (-1)) rfl ki_m1 ?_
              refine x_inv (N := m_X12_told) (As := [.int (-1)]) (b := 125) (st := []) (d' := 99) (mc := 0) (ms := 0) (host := "") 12 rfl t_X12_told ⟨Or.inl q_12_197, i_X12_told.1, i_X12_told.2⟩ ⟨by decide, rfl⟩ (congrArg Prod.fst (F.1 125 (12, 92) rfl rfl)) rfl (by decide) rfl rfl ⟨by decide, by decide⟩ (jC.of rfl k_X12_told rfl ?_)
              show jX m_X12_told 99 0 0 0 [(0, .ref 125), (1, .int (-1))] [] _ 0 0 _
              refine x_aloadn (x := 125) rfl rfl ?_
              refine x_iloadn (x := (-1)) rfl rfl ?_
              refine x_ifge (tgt := 9) rfl rfl (br_f (by decide) ?_)
              refine x_iloadn (x := (-1)) rfl rfl ?_
              refine x_goto (tgt := 10) rfl rfl ?_
              refine x_putI 12 1 rfl f_12_183 rfl (jfin_no TX12 RX12 92 rfl rfl) (congrArg Prod.fst (F.1 125 (12, 92) rfl rfl)) rfl ?_
              refine x_iloadn (x := (-1)) rfl rfl ?_
              refine x_iret rfl rfl ?_
              show jX m_X12_line 100 0 0 97 [(6, .int 0), (0, .ref 125), (1, .int a1), (2, .int a2), (3, .int a3), (4, .int a4), (5, .int a5)] [.int (-1)] _ 0 0 _
              refine x_iret rfl rfl ?_
              exact jqe (show sp_line a1 a2 a3 a4 a5 = (-1) by unfold sp_line; (repeat' split) <;> first | rfl | (exfalso; omega)) (hQ _ (by repeat (first | exact O | refine jOl_si rfl ?_ | refine jOl_sl rfl ?_ | refine jOl_ci rfl ?_ | refine jOl_cl rfl ?_ | refine jOl_sr rfl ?_)))
            ·
              refine x_iconst (v := 1) rfl ki_1 ?_
              refine x_goto (tgt := 58) rfl rfl ?_
              refine x_istore (ls' := [(6, .int 1), (0, .ref 125), (1, .int a1), (2, .int a2), (3, .int a3), (4, .int a4), (5, .int a5)]) rfl rfl rfl ?_
              refine x_iload (x := 1) rfl rfl ?_
              refine x_ifeq (tgt := 77) rfl rfl (br_f (by decide) ?_)
              refine x_aloadn (x := 125) rfl rfl ?_
              refine x_getR (b := 126) 12 2 rfl f_12_8 rfl (congrArg Prod.fst (F.1 125 (12, 92) rfl rfl)) (F.2.1 16002 126 rfl rfl) ?_
              refine x_iconst (v := 0) rfl ki_0 ?_
              refine y_iald (v := 0) (N := 50660) 0 rfl (F.1 126 (100, 50660) rfl rfl) (jinb_of (by decide)) (by decide) (F.2.2.2.1 126 rfl rfl 0).1 ?_
              refine x_sipush (v := 200) rfl ks_200 ?_
              refine x_icne (tgt := 98) rfl rfl (bn_t (by decide) ?_)
              refine x_aloadn (x := 125) rfl rfl ?_
              refine x_getR (b := 126) 12 2 rfl f_12_8 rfl (congrArg Prod.fst (F.1 125 (12, 92) rfl rfl)) (F.2.1 16002 126 rfl rfl) ?_
              refine x_iconst (v := 0) rfl ki_0 ?_
              refine y_iald (v := 0) (N := 50660) 0 rfl (F.1 126 (100, 50660) rfl rfl) (jinb_of (by decide)) (by decide) (F.2.2.2.1 126 rfl rfl 0).1 ?_
              refine x_istore (ls' := [(7, .int 0), (6, .int 1), (0, .ref 125), (1, .int a1), (2, .int a2), (3, .int a3), (4, .int a4), (5, .int a5)]) rfl rfl rfl ?_
              refine x_aloadn (x := 125) rfl rfl ?_
              refine x_iload (x := 0) rfl rfl ?_
              refine x_inv (N := m_X12_at) (As := [.int 0]) (b := 125) (st := []) (d' := 99) (mc := 0) (ms := 0) (host := "") 12 rfl t_X12_at ⟨Or.inl q_12_254, i_X12_at.1, i_X12_at.2⟩ ⟨by decide, rfl⟩ (congrArg Prod.fst (F.1 125 (12, 92) rfl rfl)) rfl (by decide) rfl rfl ⟨by decide, by decide⟩ (jC.of rfl k_X12_at rfl ?_)
              show jX m_X12_at 99 0 0 0 [(0, .ref 125), (1, .int 0)] [] _ 0 0 _
              refine x_bipush (v := 20) rfl kb_20 ?_
              refine x_bipush (v := 90) rfl kb_90 ?_
              refine x_iloadn (x := 0) rfl rfl ?_
              refine y_imul (v := 0) rfl (by decide) ?_
              refine y_iadd (v := 20) rfl (by decide) ?_
              refine x_iret rfl rfl ?_
              show jX m_X12_line 100 0 0 112 [(7, .int 0), (6, .int 1), (0, .ref 125), (1, .int a1), (2, .int a2), (3, .int a3), (4, .int a4), (5, .int a5)] [.int 20] _ 0 0 _
              refine x_istore (ls' := [(8, .int 20), (7, .int 0), (6, .int 1), (0, .ref 125), (1, .int a1), (2, .int a2), (3, .int a3), (4, .int a4), (5, .int a5)]) rfl rfl rfl ?_
              refine x_iconst (v := 0) rfl ki_0 ?_
              refine x_istore (ls' := [(9, .int 0), (8, .int 20), (7, .int 0), (6, .int 1), (0, .ref 125), (1, .int a1), (2, .int a2), (3, .int a3), (4, .int a4), (5, .int a5)]) rfl rfl rfl ?_
              refine x_iload (x := 0) rfl rfl ?_
              refine x_bipush (v := 90) rfl kb_90 ?_
              refine x_icge (tgt := 141) rfl rfl (br_f (by decide) ?_)
              refine x_aloadn (x := 125) rfl rfl ?_
              refine x_getR (b := 126) 12 2 rfl f_12_8 rfl (congrArg Prod.fst (F.1 125 (12, 92) rfl rfl)) (F.2.1 16002 126 rfl rfl) ?_
              refine x_iload (x := 20) rfl rfl ?_
              refine x_iload (x := 0) rfl rfl ?_
              refine y_iadd (v := 20) rfl (by decide) ?_
              refine x_iconst (v := 0) rfl ki_0 ?_
              refine y_iast (N := 50660) 20 rfl (F.1 126 (100, 50660) rfl rfl) rfl (jinb_of (by decide)) (by decide) ?_
              refine x_iinc (x := 0) (v := 1) (ls' := [(9, .int 1), (8, .int 20), (7, .int 0), (6, .int 1), (0, .ref 125), (1, .int a1), (2, .int a2), (3, .int a3), (4, .int a4), (5, .int a5)]) rfl rfl (by decide) rfl rfl ?_
              refine x_goto (tgt := 117) rfl rfl ?_
              refine x_iload (x := 1) rfl rfl ?_
              refine x_bipush (v := 90) rfl kb_90 ?_
              refine x_icge (tgt := 141) rfl rfl (br_f (by decide) ?_)
              refine x_aloadn (x := 125) rfl rfl ?_
              refine x_getR (b := 126) 12 2 rfl f_12_8 rfl (congrArg Prod.fst (F.1 125 (12, 92) rfl rfl)) (F.2.1 16002 126 rfl rfl) ?_
              refine x_iload (x := 20) rfl rfl ?_
              refine x_iload (x := 1) rfl rfl ?_
              refine y_iadd (v := 21) rfl (by decide) ?_
              refine x_iconst (v := 0) rfl ki_0 ?_
              refine y_iast (N := 50660) 21 rfl (F.1 126 (100, 50660) rfl rfl) rfl (jinb_of (by decide)) (by decide) ?_
              refine x_iinc (x := 1) (v := 2) (ls' := [(9, .int 2), (8, .int 20), (7, .int 0), (6, .int 1), (0, .ref 125), (1, .int a1), (2, .int a2), (3, .int a3), (4, .int a4), (5, .int a5)]) rfl rfl (by decide) rfl rfl ?_
              refine x_goto (tgt := 117) rfl rfl ?_
              refine x_iload (x := 2) rfl rfl ?_
              refine x_bipush (v := 90) rfl kb_90 ?_
              refine x_icge (tgt := 141) rfl rfl (br_f (by decide) ?_)
              refine x_aloadn (x := 125) rfl rfl ?_
              refine x_getR (b := 126) 12 2 rfl f_12_8 rfl (congrArg Prod.fst (F.1 125 (12, 92) rfl rfl)) (F.2.1 16002 126 rfl rfl) ?_
              refine x_iload (x := 20) rfl rfl ?_
              refine x_iload (x := 2) rfl rfl ?_
              refine y_iadd (v := 22) rfl (by decide) ?_
              refine x_iconst (v := 0) rfl ki_0 ?_
              refine y_iast (N := 50660) 22 rfl (F.1 126 (100, 50660) rfl rfl) rfl (jinb_of (by decide)) (by decide) ?_
              refine x_iinc (x := 2) (v := 3) (ls' := [(9, .int 3), (8, .int 20), (7, .int 0), (6, .int 1), (0, .ref 125), (1, .int a1), (2, .int a2), (3, .int a3), (4, .int a4), (5, .int a5)]) rfl rfl (by decide) rfl rfl ?_
              refine x_goto (tgt := 117) rfl rfl ?_
              refine x_iload (x := 3) rfl rfl ?_
              refine x_bipush (v := 90) rfl kb_90 ?_
              refine x_icge (tgt := 141) rfl rfl (br_f (by decide) ?_)
              refine x_aloadn (x := 125) rfl rfl ?_
              refine x_getR (b := 126) 12 2 rfl f_12_8 rfl (congrArg Prod.fst (F.1 125 (12, 92) rfl rfl)) (F.2.1 16002 126 rfl rfl) ?_
              refine x_iload (x := 20) rfl rfl ?_
              refine x_iload (x := 3) rfl rfl ?_
              refine y_iadd (v := 23) rfl (by decide) ?_
              refine x_iconst (v := 0) rfl ki_0 ?_
              refine y_iast (N := 50660) 23 rfl (F.1 126 (100, 50660) rfl rfl) rfl (jinb_of (by decide)) (by decide) ?_
              refine x_iinc (x := 3) (v := 4) (ls' := [(9, .int 4), (8, .int 20), (7, .int 0), (6, .int 1), (0, .ref 125), (1, .int a1), (2, .int a2), (3, .int a3), (4, .int a4), (5, .int a5)]) rfl rfl (by decide) rfl rfl ?_
              refine x_goto (tgt := 117) rfl rfl ?_
              refine x_iload (x := 4) rfl rfl ?_
              refine x_bipush (v := 90) rfl kb_90 ?_
              refine x_icge (tgt := 141) rfl rfl (br_f (by decide) ?_)
              refine x_aloadn (x := 125) rfl rfl ?_
              refine x_getR (b := 126) 12 2 rfl f_12_8 rfl (congrArg Prod.fst (F.1 125 (12, 92) rfl rfl)) (F.2.1 16002 126 rfl rfl) ?_
              refine x_iload (x := 20) rfl rfl ?_
              refine x_iload (x := 4) rfl rfl ?_
              refine y_iadd (v := 24) rfl (by decide) ?_
              refine x_iconst (v := 0) rfl ki_0 ?_
              refine y_iast (N := 50660) 24 rfl (F.1 126 (100, 50660) rfl rfl) rfl (jinb_of (by decide)) (by decide) ?_
              refine x_iinc (x := 4) (v := 5) (ls' := [(9, .int 5), (8, .int 20), (7, .int 0), (6, .int 1), (0, .ref 125), (1, .int a1), (2, .int a2), (3, .int a3), (4, .int a4), (5, .int a5)]) rfl rfl (by decide) rfl rfl ?_
              refine x_goto (tgt := 117) rfl rfl ?_
              refine x_iload (x := 5) rfl rfl ?_
              refine x_bipush (v := 90) rfl kb_90 ?_
              refine x_icge (tgt := 141) rfl rfl (br_f (by decide) ?_)
              refine x_aloadn (x := 125) rfl rfl ?_
              refine x_getR (b := 126) 12 2 rfl f_12_8 rfl (congrArg Prod.fst (F.1 125 (12, 92) rfl rfl)) (F.2.1 16002 126 rfl rfl) ?_
              refine x_iload (x := 20) rfl rfl ?_
              refine x_iload (x := 5) rfl rfl ?_
              refine y_iadd (v := 25) rfl (by decide) ?_
              refine x_iconst (v := 0) rfl ki_0 ?_
              refine y_iast (N := 50660) 25 rfl (F.1 126 (100, 50660) rfl rfl) rfl (jinb_of (by decide)) (by decide) ?_
              refine x_iinc (x := 5) (v := 6) (ls' := [(9, .int 6), (8, .int 20), (7, .int 0), (6, .int 1), (0, .ref 125), (1, .int a1), (2, .int a2), (3, .int a3), (4, .int a4), (5, .int a5)]) rfl rfl (by decide) rfl rfl ?_
              refine x_goto (tgt := 117) rfl rfl ?_
              refine x_iload (x := 6) rfl rfl ?_
              refine x_bipush (v := 90) rfl kb_90 ?_
              refine x_icge (tgt := 141) rfl rfl (br_f (by decide) ?_)
              refine x_aloadn (x := 125) rfl rfl ?_
              refine x_getR (b := 126) 12 2 rfl f_12_8 rfl (congrArg Prod.fst (F.1 125 (12, 92) rfl rfl)) (F.2.1 16002 126 rfl rfl) ?_
              refine x_iload (x := 20) rfl rfl ?_
              refine x_iload (x := 6) rfl rfl ?_
              refine y_iadd (v := 26) rfl (by decide) ?_
              refine x_iconst (v := 0) rfl ki_0 ?_
              refine y_iast (N := 50660) 26 rfl (F.1 126 (100, 50660) rfl rfl) rfl (jinb_of (by decide)) (by decide) ?_
              refine x_iinc (x := 6) (v := 7) (ls' := [(9, .int 7), (8, .int 20), (7, .int 0), (6, .int 1), (0, .ref 125), (1, .int a1), (2, .int a2), (3, .int a3), (4, .int a4), (5, .int a5)]) rfl rfl (by decide) rfl rfl ?_
              refine x_goto (tgt := 117) rfl rfl ?_
              refine x_iload (x := 7) rfl rfl ?_
              refine x_bipush (v := 90) rfl kb_90 ?_
              refine x_icge (tgt := 141) rfl rfl (br_f (by decide) ?_)
              refine x_aloadn (x := 125) rfl rfl ?_
              refine x_getR (b := 126) 12 2 rfl f_12_8 rfl (congrArg Prod.fst (F.1 125 (12, 92) rfl rfl)) (F.2.1 16002 126 rfl rfl) ?_
              refine x_iload (x := 20) rfl rfl ?_
              refine x_iload (x := 7) rfl rfl ?_
              refine y_iadd (v := 27) rfl (by decide) ?_
              refine x_iconst (v := 0) rfl ki_0 ?_
              refine y_iast (N := 50660) 27 rfl (F.1 126 (100, 50660) rfl rfl) rfl (jinb_of (by decide)) (by decide) ?_
              refine x_iinc (x := 7) (v := 8) (ls' := [(9, .int 8), (8, .int 20), (7, .int 0), (6, .int 1), (0, .ref 125), (1, .int a1), (2, .int a2), (3, .int a3), (4, .int a4), (5, .int a5)]) rfl rfl (by decide) rfl rfl ?_
              refine x_goto (tgt := 117) rfl rfl ?_
              refine x_iload (x := 8) rfl rfl ?_
              refine x_bipush (v := 90) rfl kb_90 ?_
              refine x_icge (tgt := 141) rfl rfl (br_f (by decide) ?_)
              refine x_aloadn (x := 125) rfl rfl ?_
              refine x_getR (b := 126) 12 2 rfl f_12_8 rfl (congrArg Prod.fst (F.1 125 (12, 92) rfl rfl)) (F.2.1 16002 126 rfl rfl) ?_
              refine x_iload (x := 20) rfl rfl ?_
              refine x_iload (x := 8) rfl rfl ?_
              refine y_iadd (v := 28) rfl (by decide) ?_
              refine x_iconst (v := 0) rfl ki_0 ?_
              refine y_iast (N := 50660) 28 rfl (F.1 126 (100, 50660) rfl rfl) rfl (jinb_of (by decide)) (by decide) ?_
              refine x_iinc (x := 8) (v := 9) (ls' := [(9, .int 9), (8, .int 20), (7, .int 0), (6, .int 1), (0, .ref 125), (1, .int a1), (2, .int a2), (3, .int a3), (4, .int a4), (5, .int a5)]) rfl rfl (by decide) rfl rfl ?_
              refine x_goto (tgt := 117) rfl rfl ?_
              refine x_iload (x := 9) rfl rfl ?_
              refine x_bipush (v := 90) rfl kb_90 ?_
              refine x_icge (tgt := 141) rfl rfl (br_f (by decide) ?_)
              refine x_aloadn (x := 125) rfl rfl ?_
              refine x_getR (b := 126) 12 2 rfl f_12_8 rfl (congrArg Prod.fst (F.1 125 (12, 92) rfl rfl)) (F.2.1 16002 126 rfl rfl) ?_
              refine x_iload (x := 20) rfl rfl ?_
              refine x_iload (x := 9) rfl rfl ?_
              refine y_iadd (v := 29) rfl (by decide) ?_
              refine x_iconst (v := 0) rfl ki_0 ?_
              refine y_iast (N := 50660) 29 rfl (F.1 126 (100, 50660) rfl rfl) rfl (jinb_of (by decide)) (by decide) ?_
              refine x_iinc (x := 9) (v := 10) (ls' := [(9, .int 10), (8, .int 20), (7, .int 0), (6, .int 1), (0, .ref 125), (1, .int a1), (2, .int a2), (3, .int a3), (4, .int a4), (5, .int a5)]) rfl rfl (by decide) rfl rfl ?_
              refine x_goto (tgt := 117) rfl rfl ?_
              refine x_iload (x := 10) rfl rfl ?_
              refine x_bipush (v := 90) rfl kb_90 ?_
              refine x_icge (tgt := 141) rfl rfl (br_f (by decide) ?_)
              refine x_aloadn (x := 125) rfl rfl ?_
              refine x_getR (b := 126) 12 2 rfl f_12_8 rfl (congrArg Prod.fst (F.1 125 (12, 92) rfl rfl)) (F.2.1 16002 126 rfl rfl) ?_
              refine x_iload (x := 20) rfl rfl ?_
              refine x_iload (x := 10) rfl rfl ?_
              refine y_iadd (v := 30) rfl (by decide) ?_
              refine x_iconst (v := 0) rfl ki_0 ?_
              refine y_iast (N := 50660) 30 rfl (F.1 126 (100, 50660) rfl rfl) rfl (jinb_of (by decide)) (by decide) ?_
              refine x_iinc (x := 10) (v := 11) (ls' := [(9, .int 11), (8, .int 20), (7, .int 0), (6, .int 1), (0, .ref 125), (1, .int a1), (2, .int a2), (3, .int a3), (4, .int a4), (5, .int a5)]) rfl rfl (by decide) rfl rfl ?_
              refine x_goto (tgt := 117) rfl rfl ?_
              refine x_iload (x := 11) rfl rfl ?_
              refine x_bipush (v := 90) rfl kb_90 ?_
              refine x_icge (tgt := 141) rfl rfl (br_f (by decide) ?_)
              refine x_aloadn (x := 125) rfl rfl ?_
              refine x_getR (b := 126) 12 2 rfl f_12_8 rfl (congrArg Prod.fst (F.1 125 (12, 92) rfl rfl)) (F.2.1 16002 126 rfl rfl) ?_
              refine x_iload (x := 20) rfl rfl ?_
              refine x_iload (x := 11) rfl rfl ?_
              refine y_iadd (v := 31) rfl (by decide) ?_
              refine x_iconst (v := 0) rfl ki_0 ?_
              refine y_iast (N := 50660) 31 rfl (F.1 126 (100, 50660) rfl rfl) rfl (jinb_of (by decide)) (by decide) ?_
              refine x_iinc (x := 11) (v := 12) (ls' := [(9, .int 12), (8, .int 20), (7, .int 0), (6, .int 1), (0, .ref 125), (1, .int a1), (2, .int a2), (3, .int a3), (4, .int a4), (5, .int a5)]) rfl rfl (by decide) rfl rfl ?_
              refine x_goto (tgt := 117) rfl rfl ?_
              refine x_iload (x := 12) rfl rfl ?_
              refine x_bipush (v := 90) rfl kb_90 ?_
              refine x_icge (tgt := 141) rfl rfl (br_f (by decide) ?_)
              refine x_aloadn (x := 125) rfl rfl ?_
              refine x_getR (b := 126) 12 2 rfl f_12_8 rfl (congrArg Prod.fst (F.1 125 (12, 92) rfl rfl)) (F.2.1 16002 126 rfl rfl) ?_
              refine x_iload (x := 20) rfl rfl ?_
              refine x_iload (x := 12) rfl rfl ?_
              refine y_iadd (v := 32) rfl (by decide) ?_
              refine x_iconst (v := 0) rfl ki_0 ?_
              refine y_iast (N := 50660) 32 rfl (F.1 126 (100, 50660) rfl rfl) rfl (jinb_of (by decide)) (by decide) ?_
              refine x_iinc (x := 12) (v := 13) (ls' := [(9, .int 13), (8, .int 20), (7, .int 0), (6, .int 1), (0, .ref 125), (1, .int a1), (2, .int a2), (3, .int a3), (4, .int a4), (5, .int a5)]) rfl rfl (by decide) rfl rfl ?_
              refine x_goto (tgt := 117) rfl rfl ?_
              refine x_iload (x := 13) rfl rfl ?_
              refine x_bipush (v := 90) rfl kb_90 ?_
              refine x_icge (tgt := 141) rfl rfl (br_f (by decide) ?_)
              refine x_aloadn (x := 125) rfl rfl ?_
              refine x_getR (b := 126) 12 2 rfl f_12_8 rfl (congrArg Prod.fst (F.1 125 (12, 92) rfl rfl)) (F.2.1 16002 126 rfl rfl) ?_
              refine x_iload (x := 20) rfl rfl ?_
              refine x_iload (x := 13) rfl rfl ?_
              refine y_iadd (v := 33) rfl (by decide) ?_
              refine x_iconst (v := 0) rfl ki_0 ?_
              refine y_iast (N := 50660) 33 rfl (F.1 126 (100, 50660) rfl rfl) rfl (jinb_of (by decide)) (by decide) ?_
              refine x_iinc (x := 13) (v := 14) (ls' := [(9, .int 14), (8, .int 20), (7, .int 0), (6, .int 1), (0, .ref 125), (1, .int a1), (2, .int a2), (3, .int a3), (4, .int a4), (5, .int a5)]) rfl rfl (by decide) rfl rfl ?_
              refine x_goto (tgt := 117) rfl rfl ?_
              refine x_iload (x := 14) rfl rfl ?_
              refine x_bipush (v := 90) rfl kb_90 ?_
              refine x_icge (tgt := 141) rfl rfl (br_f (by decide) ?_)
              refine x_aloadn (x := 125) rfl rfl ?_
              refine x_getR (b := 126) 12 2 rfl f_12_8 rfl (congrArg Prod.fst (F.1 125 (12, 92) rfl rfl)) (F.2.1 16002 126 rfl rfl) ?_
              refine x_iload (x := 20) rfl rfl ?_
              refine x_iload (x := 14) rfl rfl ?_
              refine y_iadd (v := 34) rfl (by decide) ?_
              refine x_iconst (v := 0) rfl ki_0 ?_
              refine y_iast (N := 50660) 34 rfl (F.1 126 (100, 50660) rfl rfl) rfl (jinb_of (by decide)) (by decide) ?_
              refine x_iinc (x := 14) (v := 15) (ls' := [(9, .int 15), (8, .int 20), (7, .int 0), (6, .int 1), (0, .ref 125), (1, .int a1), (2, .int a2), (3, .int a3), (4, .int a4), (5, .int a5)]) rfl rfl (by decide) rfl rfl ?_
              refine x_goto (tgt := 117) rfl rfl ?_
              refine x_iload (x := 15) rfl rfl ?_
              refine x_bipush (v := 90) rfl kb_90 ?_
              refine x_icge (tgt := 141) rfl rfl (br_f (by decide) ?_)
              refine x_aloadn (x := 125) rfl rfl ?_
              refine x_getR (b := 126) 12 2 rfl f_12_8 rfl (congrArg Prod.fst (F.1 125 (12, 92) rfl rfl)) (F.2.1 16002 126 rfl rfl) ?_
              refine x_iload (x := 20) rfl rfl ?_
              refine x_iload (x := 15) rfl rfl ?_
              refine y_iadd (v := 35) rfl (by decide) ?_
              refine x_iconst (v := 0) rfl ki_0 ?_
              refine y_iast (N := 50660) 35 rfl (F.1 126 (100, 50660) rfl rfl) rfl (jinb_of (by decide)) (by decide) ?_
              refine x_iinc (x := 15) (v := 16) (ls' := [(9, .int 16), (8, .int 20), (7, .int 0), (6, .int 1), (0, .ref 125), (1, .int a1), (2, .int a2), (3, .int a3), (4, .int a4), (5, .int a5)]) rfl rfl (by decide) rfl rfl ?_
              refine x_goto (tgt := 117) rfl rfl ?_
              refine x_iload (x := 16) rfl rfl ?_
              refine x_bipush (v := 90) rfl kb_90 ?_
              refine x_icge (tgt := 141) rfl rfl (br_f (by decide) ?_)
              refine x_aloadn (x := 125) rfl rfl ?_
              refine x_getR (b := 126) 12 2 rfl f_12_8 rfl (congrArg Prod.fst (F.1 125 (12, 92) rfl rfl)) (F.2.1 16002 126 rfl rfl) ?_
              refine x_iload (x := 20) rfl rfl ?_
              refine x_iload (x := 16) rfl rfl ?_
              refine y_iadd (v := 36) rfl (by decide) ?_
              refine x_iconst (v := 0) rfl ki_0 ?_
              refine y_iast (N := 50660) 36 rfl (F.1 126 (100, 50660) rfl rfl) rfl (jinb_of (by decide)) (by decide) ?_
              refine x_iinc (x := 16) (v := 17) (ls' := [(9, .int 17), (8, .int 20), (7, .int 0), (6, .int 1), (0, .ref 125), (1, .int a1), (2, .int a2), (3, .int a3), (4, .int a4), (5, .int a5)]) rfl rfl (by decide) rfl rfl ?_
              refine x_goto (tgt := 117) rfl rfl ?_
              refine x_iload (x := 17) rfl rfl ?_
              refine x_bipush (v := 90) rfl kb_90 ?_
              refine x_icge (tgt := 141) rfl rfl (br_f (by decide) ?_)
              refine x_aloadn (x := 125) rfl rfl ?_
              refine x_getR (b := 126) 12 2 rfl f_12_8 rfl (congrArg Prod.fst (F.1 125 (12, 92) rfl rfl)) (F.2.1 16002 126 rfl rfl) ?_
              refine x_iload (x := 20) rfl rfl ?_
              refine x_iload (x := 17) rfl rfl ?_
              refine y_iadd (v := 37) rfl (by decide) ?_
              refine x_iconst (v := 0) rfl ki_0 ?_
              refine y_iast (N := 50660) 37 rfl (F.1 126 (100, 50660) rfl rfl) rfl (jinb_of (by decide)) (by decide) ?_
              refine x_iinc (x := 17) (v := 18) (ls' := [(9, .int 18), (8, .int 20), (7, .int 0), (6, .int 1), (0, .ref 125), (1, .int a1), (2, .int a2), (3, .int a3), (4, .int a4), (5, .int a5)]) rfl rfl (by decide) rfl rfl ?_
              refine x_goto (tgt := 117) rfl rfl ?_
              refine x_iload (x := 18) rfl rfl ?_
              refine x_bipush (v := 90) rfl kb_90 ?_
              refine x_icge (tgt := 141) rfl rfl (br_f (by decide) ?_)
              refine x_aloadn (x := 125) rfl rfl ?_
              refine x_getR (b := 126) 12 2 rfl f_12_8 rfl (congrArg Prod.fst (F.1 125 (12, 92) rfl rfl)) (F.2.1 16002 126 rfl rfl) ?_
              refine x_iload (x := 20) rfl rfl ?_
              refine x_iload (x := 18) rfl rfl ?_
              refine y_iadd (v := 38) rfl (by decide) ?_
              refine x_iconst (v := 0) rfl ki_0 ?_
              refine y_iast (N := 50660) 38 rfl (F.1 126 (100, 50660) rfl rfl) rfl (jinb_of (by decide)) (by decide) ?_
              refine x_iinc (x := 18) (v := 19) (ls' := [(9, .int 19), (8, .int 20), (7, .int 0), (6, .int 1), (0, .ref 125), (1, .int a1), (2, .int a2), (3, .int a3), (4, .int a4), (5, .int a5)]) rfl rfl (by decide) rfl rfl ?_
              refine x_goto (tgt := 117) rfl rfl ?_
              refine x_iload (x := 19) rfl rfl ?_
              refine x_bipush (v := 90) rfl kb_90 ?_
              refine x_icge (tgt := 141) rfl rfl (br_f (by decide) ?_)
              refine x_aloadn (x := 125) rfl rfl ?_
              refine x_getR (b := 126) 12 2 rfl f_12_8 rfl (congrArg Prod.fst (F.1 125 (12, 92) rfl rfl)) (F.2.1 16002 126 rfl rfl) ?_
              refine x_iload (x := 20) rfl rfl ?_
              refine x_iload (x := 19) rfl rfl ?_
              refine y_iadd (v := 39) rfl (by decide) ?_
              refine x_iconst (v := 0) rfl ki_0 ?_
              refine y_iast (N := 50660) 39 rfl (F.1 126 (100, 50660) rfl rfl) rfl (jinb_of (by decide)) (by decide) ?_
              refine x_iinc (x := 19) (v := 20) (ls' := [(9, .int 20), (8, .int 20), (7, .int 0), (6, .int 1), (0, .ref 125), (1, .int a1), (2, .int a2), (3, .int a3), (4, .int a4), (5, .int a5)]) rfl rfl (by decide) rfl rfl ?_
              refine x_goto (tgt := 117) rfl rfl ?_
              refine x_iload (x := 20) rfl rfl ?_
              refine x_bipush (v := 90) rfl kb_90 ?_
              refine x_icge (tgt := 141) rfl rfl (br_f (by decide) ?_)
              refine x_aloadn (x := 125) rfl rfl ?_
              refine x_getR (b := 126) 12 2 rfl f_12_8 rfl (congrArg Prod.fst (F.1 125 (12, 92) rfl rfl)) (F.2.1 16002 126 rfl rfl) ?_
              refine x_iload (x := 20) rfl rfl ?_
              refine x_iload (x := 20) rfl rfl ?_
              refine y_iadd (v := 40) rfl (by decide) ?_
              refine x_iconst (v := 0) rfl ki_0 ?_
              refine y_iast (N := 50660) 40 rfl (F.1 126 (100, 50660) rfl rfl) rfl (jinb_of (by decide)) (by decide) ?_
              refine x_iinc (x := 20) (v := 21) (ls' := [(9, .int 21), (8, .int 20), (7, .int 0), (6, .int 1), (0, .ref 125), (1, .int a1), (2, .int a2), (3, .int a3), (4, .int a4), (5, .int a5)]) rfl rfl (by decide) rfl rfl ?_
              refine x_goto (tgt := 117) rfl rfl ?_
              refine x_iload (x := 21) rfl rfl ?_
              refine x_bipush (v := 90) rfl kb_90 ?_
              refine x_icge (tgt := 141) rfl rfl (br_f (by decide) ?_)
              refine x_aloadn (x := 125) rfl rfl ?_
              refine x_getR (b := 126) 12 2 rfl f_12_8 rfl (congrArg Prod.fst (F.1 125 (12, 92) rfl rfl)) (F.2.1 16002 126 rfl rfl) ?_
              refine x_iload (x := 20) rfl rfl ?_
              refine x_iload (x := 21) rfl rfl ?_
              refine y_iadd (v := 41) rfl (by decide) ?_
              refine x_iconst (v := 0) rfl ki_0 ?_
              refine y_iast (N := 50660) 41 rfl (F.1 126 (100, 50660) rfl rfl) rfl (jinb_of (by decide)) (by decide) ?_
              refine x_iinc (x := 21) (v := 22) (ls' := [(9, .int 22), (8, .int 20), (7, .int 0), (6, .int 1), (0, .ref 125), (1, .int a1), (2, .int a2), (3, .int a3), (4, .int a4), (5, .int a5)]) rfl rfl (by decide) rfl rfl ?_
              refine x_goto (tgt := 117) rfl rfl ?_
              refine x_iload (x := 22) rfl rfl ?_
              refine x_bipush (v := 90) rfl kb_90 ?_
              refine x_icge (tgt := 141) rfl rfl (br_f (by decide) ?_)
              refine x_aloadn (x := 125) rfl rfl ?_
              refine x_getR (b := 126) 12 2 rfl f_12_8 rfl (congrArg Prod.fst (F.1 125 (12, 92) rfl rfl)) (F.2.1 16002 126 rfl rfl) ?_
              refine x_iload (x := 20) rfl rfl ?_
              refine x_iload (x := 22) rfl rfl ?_
              refine y_iadd (v := 42) rfl (by decide) ?_
              refine x_iconst (v := 0) rfl ki_0 ?_
              refine y_iast (N := 50660) 42 rfl (F.1 126 (100, 50660) rfl rfl) rfl (jinb_of (by decide)) (by decide) ?_
              refine x_iinc (x := 22) (v := 23) (ls' := [(9, .int 23), (8, .int 20), (7, .int 0), (6, .int 1), (0, .ref 125), (1, .int a1), (2, .int a2), (3, .int a3), (4, .int a4), (5, .int a5)]) rfl rfl (by decide) rfl rfl ?_
              refine x_goto (tgt := 117) rfl rfl ?_
              refine x_iload (x := 23) rfl rfl ?_
              refine x_bipush (v := 90) rfl kb_90 ?_
              refine x_icge (tgt := 141) rfl rfl (br_f (by decide) ?_)
              refine x_aloadn (x := 125) rfl rfl ?_
              refine x_getR (b := 126) 12 2 rfl f_12_8 rfl (congrArg Prod.fst (F.1 125 (12, 92) rfl rfl)) (F.2.1 16002 126 rfl rfl) ?_
              refine x_iload (x := 20) rfl rfl ?_
              refine x_iload (x := 23) rfl rfl ?_
              refine y_iadd (v := 43) rfl (by decide) ?_
              refine x_iconst (v := 0) rfl ki_0 ?_
              refine y_iast (N := 50660) 43 rfl (F.1 126 (100, 50660) rfl rfl) rfl (jinb_of (by decide)) (by decide) ?_
              refine x_iinc (x := 23) (v := 24) (ls' := [(9, .int 24), (8, .int 20), (7, .int 0), (6, .int 1), (0, .ref 125), (1, .int a1), (2, .int a2), (3, .int a3), (4, .int a4), (5, .int a5)]) rfl rfl (by decide) rfl rfl ?_
              refine x_goto (tgt := 117) rfl rfl ?_
              refine x_iload (x := 24) rfl rfl ?_
              refine x_bipush (v := 90) rfl kb_90 ?_
              refine x_icge (tgt := 141) rfl rfl (br_f (by decide) ?_)
              refine x_aloadn (x := 125) rfl rfl ?_
              refine x_getR (b := 126) 12 2 rfl f_12_8 rfl (congrArg Prod.fst (F.1 125 (12, 92) rfl rfl)) (F.2.1 16002 126 rfl rfl) ?_
              refine x_iload (x := 20) rfl rfl ?_
              refine x_iload (x := 24) rfl rfl ?_
              refine y_iadd (v := 44) rfl (by decide) ?_
              refine x_iconst (v := 0) rfl ki_0 ?_
              refine y_iast (N := 50660) 44 rfl (F.1 126 (100, 50660) rfl rfl) rfl (jinb_of (by decide)) (by decide) ?_
              refine x_iinc (x := 24) (v := 25) (ls' := [(9, .int 25), (8, .int 20), (7, .int 0), (6, .int 1), (0, .ref 125), (1, .int a1), (2, .int a2), (3, .int a3), (4, .int a4), (5, .int a5)]) rfl rfl (by decide) rfl rfl ?_
              refine x_goto (tgt := 117) rfl rfl ?_
              refine x_iload (x := 25) rfl rfl ?_
              refine x_bipush (v := 90) rfl kb_90 ?_
              refine x_icge (tgt := 141) rfl rfl (br_f (by decide) ?_)
              refine x_aloadn (x := 125) rfl rfl ?_
              refine x_getR (b := 126) 12 2 rfl f_12_8 rfl (congrArg Prod.fst (F.1 125 (12, 92) rfl rfl)) (F.2.1 16002 126 rfl rfl) ?_
              refine x_iload (x := 20) rfl rfl ?_
              refine x_iload (x := 25) rfl rfl ?_
              refine y_iadd (v := 45) rfl (by decide) ?_
              refine x_iconst (v := 0) rfl ki_0 ?_
              refine y_iast (N := 50660) 45 rfl (F.1 126 (100, 50660) rfl rfl) rfl (jinb_of (by decide)) (by decide) ?_
              refine x_iinc (x := 25) (v := 26) (ls' := [(9, .int 26), (8, .int 20), (7, .int 0), (6, .int 1), (0, .ref 125), (1, .int a1), (2, .int a2), (3, .int a3), (4, .int a4), (5, .int a5)]) rfl rfl (by decide) rfl rfl ?_
              refine x_goto (tgt := 117) rfl rfl ?_
              refine x_iload (x := 26) rfl rfl ?_
              refine x_bipush (v := 90) rfl kb_90 ?_
              refine x_icge (tgt := 141) rfl rfl (br_f (by decide) ?_)
              refine x_aloadn (x := 125) rfl rfl ?_
              refine x_getR (b := 126) 12 2 rfl f_12_8 rfl (congrArg Prod.fst (F.1 125 (12, 92) rfl rfl)) (F.2.1 16002 126 rfl rfl) ?_
              refine x_iload (x := 20) rfl rfl ?_
              refine x_iload (x := 26) rfl rfl ?_
              refine y_iadd (v := 46) rfl (by decide) ?_
              refine x_iconst (v := 0) rfl ki_0 ?_
              refine y_iast (N := 50660) 46 rfl (F.1 126 (100, 50660) rfl rfl) rfl (jinb_of (by decide)) (by decide) ?_
              refine x_iinc (x := 26) (v := 27) (ls' := [(9, .int 27), (8, .int 20), (7, .int 0), (6, .int 1), (0, .ref 125), (1, .int a1), (2, .int a2), (3, .int a3), (4, .int a4), (5, .int a5)]) rfl rfl (by decide) rfl rfl ?_
              refine x_goto (tgt := 117) rfl rfl ?_
              refine x_iload (x := 27) rfl rfl ?_
              refine x_bipush (v := 90) rfl kb_90 ?_
              refine x_icge (tgt := 141) rfl rfl (br_f (by decide) ?_)
              refine x_aloadn (x := 125) rfl rfl ?_
              refine x_getR (b := 126) 12 2 rfl f_12_8 rfl (congrArg Prod.fst (F.1 125 (12, 92) rfl rfl)) (F.2.1 16002 126 rfl rfl) ?_
              refine x_iload (x := 20) rfl rfl ?_
              refine x_iload (x := 27) rfl rfl ?_
              refine y_iadd (v := 47) rfl (by decide) ?_
              refine x_iconst (v := 0) rfl ki_0 ?_
              refine y_iast (N := 50660) 47 rfl (F.1 126 (100, 50660) rfl rfl) rfl (jinb_of (by decide)) (by decide) ?_
              refine x_iinc (x := 27) (v := 28) (ls' := [(9, .int 28), (8, .int 20), (7, .int 0), (6, .int 1), (0, .ref 125), (1, .int a1), (2, .int a2), (3, .int a3), (4, .int a4), (5, .int a5)]) rfl rfl (by decide) rfl rfl ?_
              refine x_goto (tgt := 117) rfl rfl ?_
              refine x_iload (x := 28) rfl rfl ?_
              refine x_bipush (v := 90) rfl kb_90 ?_
              refine x_icge (tgt := 141) rfl rfl (br_f (by decide) ?_)
              refine x_aloadn (x := 125) rfl rfl ?_
              refine x_getR (b := 126) 12 2 rfl f_12_8 rfl (congrArg Prod.fst (F.1 125 (12, 92) rfl rfl)) (F.2.1 16002 126 rfl rfl) ?_
              refine x_iload (x := 20) rfl rfl ?_
              refine x_iload (x := 28) rfl rfl ?_
              refine y_iadd (v := 48) rfl (by decide) ?_
              refine x_iconst (v := 0) rfl ki_0 ?_
              refine y_iast (N := 50660) 48 rfl (F.1 126 (100, 50660) rfl rfl) rfl (jinb_of (by decide)) (by decide) ?_
              refine x_iinc (x := 28) (v := 29) (ls' := [(9, .int 29), (8, .int 20), (7, .int 0), (6, .int 1), (0, .ref 125), (1, .int a1), (2, .int a2), (3, .int a3), (4, .int a4), (5, .int a5)]) rfl rfl (by decide) rfl rfl ?_
              refine x_goto (tgt := 117) rfl rfl ?_
              refine x_iload (x := 29) rfl rfl ?_
              refine x_bipush (v := 90) rfl kb_90 ?_
              refine x_icge (tgt := 141) rfl rfl (br_f (by decide) ?_)
              refine x_aloadn (x := 125) rfl rfl ?_
              refine x_getR (b := 126) 12 2 rfl f_12_8 rfl (congrArg Prod.fst (F.1 125 (12, 92) rfl rfl)) (F.2.1 16002 126 rfl rfl) ?_
              refine x_iload (x := 20) rfl rfl ?_
              refine x_iload (x := 29) rfl rfl ?_
              refine y_iadd (v := 49) rfl (by decide) ?_
              refine x_iconst (v := 0) rfl ki_0 ?_
              refine y_iast (N := 50660) 49 rfl (F.1 126 (100, 50660) rfl rfl) rfl (jinb_of (by decide)) (by decide) ?_
              refine x_iinc (x := 29) (v := 30) (ls' := [(9, .int 30), (8, .int 20), (7, .int 0), (6, .int 1), (0, .ref 125), (1, .int a1), (2, .int a2), (3, .int a3), (4, .int a4), (5, .int a5)]) rfl rfl (by decide) rfl rfl ?_
              refine x_goto (tgt := 117) rfl rfl ?_
              refine x_iload (x := 30) rfl rfl ?_
              refine x_bipush (v := 90) rfl kb_90 ?_
              refine x_icge (tgt := 141) rfl rfl (br_f (by decide) ?_)
              refine x_aloadn (x := 125) rfl rfl ?_
              refine x_getR (b := 126) 12 2 rfl f_12_8 rfl (congrArg Prod.fst (F.1 125 (12, 92) rfl rfl)) (F.2.1 16002 126 rfl rfl) ?_
              refine x_iload (x := 20) rfl rfl ?_
              refine x_iload (x := 30) rfl rfl ?_
              refine y_iadd (v := 50) rfl (by decide) ?_
              refine x_iconst (v := 0) rfl ki_0 ?_
              refine y_iast (N := 50660) 50 rfl (F.1 126 (100, 50660) rfl rfl) rfl (jinb_of (by decide)) (by decide) ?_
              refine x_iinc (x := 30) (v := 31) (ls' := [(9, .int 31), (8, .int 20), (7, .int 0), (6, .int 1), (0, .ref 125), (1, .int a1), (2, .int a2), (3, .int a3), (4, .int a4), (5, .int a5)]) rfl rfl (by decide) rfl rfl ?_
              refine x_goto (tgt := 117) rfl rfl ?_
              refine x_iload (x := 31) rfl rfl ?_
              refine x_bipush (v := 90) rfl kb_90 ?_
              refine x_icge (tgt := 141) rfl rfl (br_f (by decide) ?_)
              refine x_aloadn (x := 125) rfl rfl ?_
              refine x_getR (b := 126) 12 2 rfl f_12_8 rfl (congrArg Prod.fst (F.1 125 (12, 92) rfl rfl)) (F.2.1 16002 126 rfl rfl) ?_
              refine x_iload (x := 20) rfl rfl ?_
              refine x_iload (x := 31) rfl rfl ?_
              refine y_iadd (v := 51) rfl (by decide) ?_
              refine x_iconst (v := 0) rfl ki_0 ?_
              refine y_iast (N := 50660) 51 rfl (F.1 126 (100, 50660) rfl rfl) rfl (jinb_of (by decide)) (by decide) ?_
              refine x_iinc (x := 31) (v := 32) (ls' := [(9, .int 32), (8, .int 20), (7, .int 0), (6, .int 1), (0, .ref 125), (1, .int a1), (2, .int a2), (3, .int a3), (4, .int a4), (5, .int a5)]) rfl rfl (by decide) rfl rfl ?_
              refine x_goto (tgt := 117) rfl rfl ?_
              refine x_iload (x := 32) rfl rfl ?_
              refine x_bipush (v := 90) rfl kb_90 ?_
              refine x_icge (tgt := 141) rfl rfl (br_f (by decide) ?_)
              refine x_aloadn (x := 125) rfl rfl ?_
              refine x_getR (b := 126) 12 2 rfl f_12_8 rfl (congrArg Prod.fst (F.1 125 (12, 92) rfl rfl)) (F.2.1 16002 126 rfl rfl) ?_
              refine x_iload (x := 20) rfl rfl ?_
              refine x_iload (x := 32) rfl rfl ?_
              refine y_iadd (v := 52) rfl (by decide) ?_
              refine x_iconst (v := 0) rfl ki_0 ?_
              refine y_iast (N := 50660) 52 rfl (F.1 126 (100, 50660) rfl rfl) rfl (jinb_of (by decide)) (by decide) ?_
              refine x_iinc (x := 32) (v := 33) (ls' := [(9, .int 33), (8, .int 20), (7, .int 0), (6, .int 1), (0, .ref 125), (1, .int a1), (2, .int a2), (3, .int a3), (4, .int a4), (5, .int a5)]) rfl rfl (by decide) rfl rfl ?_
              refine x_goto (tgt := 117) rfl rfl ?_
              refine x_iload (x := 33) rfl rfl ?_
              refine x_bipush (v := 90) rfl kb_90 ?_
              refine x_icge (tgt := 141) rfl rfl (br_f (by decide) ?_)
              refine x_aloadn (x := 125) rfl rfl ?_
              refine x_getR (b := 126) 12 2 rfl f_12_8 rfl (congrArg Prod.fst (F.1 125 (12, 92) rfl rfl)) (F.2.1 16002 126 rfl rfl) ?_
              refine x_iload (x := 20) rfl rfl ?_
              refine x_iload (x := 33) rfl rfl ?_
              refine y_iadd (v := 53) rfl (by decide) ?_
              refine x_iconst (v := 0) rfl ki_0 ?_
              refine y_iast (N := 50660) 53 rfl (F.1 126 (100, 50660) rfl rfl) rfl (jinb_of (by decide)) (by decide) ?_
              refine x_iinc (x := 33) (v := 34) (ls' := [(9, .int 34), (8, .int 20), (7, .int 0), (6, .int 1), (0, .ref 125), (1, .int a1), (2, .int a2), (3, .int a3), (4, .int a4), (5, .int a5)]) rfl rfl (by decide) rfl rfl ?_
              refine x_goto (tgt := 117) rfl rfl ?_
              refine x_iload (x := 34) rfl rfl ?_
              refine x_bipush (v := 90) rfl kb_90 ?_
              refine x_icge (tgt := 141) rfl rfl (br_f (by decide) ?_)
              refine x_aloadn (x := 125) rfl rfl ?_
              refine x_getR (b := 126) 12 2 rfl f_12_8 rfl (congrArg Prod.fst (F.1 125 (12, 92) rfl rfl)) (F.2.1 16002 126 rfl rfl) ?_
              refine x_iload (x := 20) rfl rfl ?_
              refine x_iload (x := 34) rfl rfl ?_
              refine y_iadd (v := 54) rfl (by decide) ?_
              refine x_iconst (v := 0) rfl ki_0 ?_
              refine y_iast (N := 50660) 54 rfl (F.1 126 (100, 50660) rfl rfl) rfl (jinb_of (by decide)) (by decide) ?_
              refine x_iinc (x := 34) (v := 35) (ls' := [(9, .int 35), (8, .int 20), (7, .int 0), (6, .int 1), (0, .ref 125), (1, .int a1), (2, .int a2), (3, .int a3), (4, .int a4), (5, .int a5)]) rfl rfl (by decide) rfl rfl ?_
              refine x_goto (tgt := 117) rfl rfl ?_
              refine x_iload (x := 35) rfl rfl ?_
              refine x_bipush (v := 90) rfl kb_90 ?_
              refine x_icge (tgt := 141) rfl rfl (br_f (by decide) ?_)
              refine x_aloadn (x := 125) rfl rfl ?_
              refine x_getR (b := 126) 12 2 rfl f_12_8 rfl (congrArg Prod.fst (F.1 125 (12, 92) rfl rfl)) (F.2.1 16002 126 rfl rfl) ?_
              refine x_iload (x := 20) rfl rfl ?_
              refine x_iload (x := 35) rfl rfl ?_
              refine y_iadd (v := 55) rfl (by decide) ?_
              refine x_iconst (v := 0) rfl ki_0 ?_
              refine y_iast (N := 50660) 55 rfl (F.1 126 (100, 50660) rfl rfl) rfl (jinb_of (by decide)) (by decide) ?_
              refine x_iinc (x := 35) (v := 36) (ls' := [(9, .int 36), (8, .int 20), (7, .int 0), (6, .int 1), (0, .ref 125), (1, .int a1), (2, .int a2), (3, .int a3), (4, .int a4), (5, .int a5)]) rfl rfl (by decide) rfl rfl ?_
              refine x_goto (tgt := 117) rfl rfl ?_
              refine x_iload (x := 36) rfl rfl ?_
              refine x_bipush (v := 90) rfl kb_90 ?_
              refine x_icge (tgt := 141) rfl rfl (br_f (by decide) ?_)
              refine x_aloadn (x := 125) rfl rfl ?_
              refine x_getR (b := 126) 12 2 rfl f_12_8 rfl (congrArg Prod.fst (F.1 125 (12, 92) rfl rfl)) (F.2.1 16002 126 rfl rfl) ?_
              refine x_iload (x := 20) rfl rfl ?_
              refine x_iload (x := 36) rfl rfl ?_
              refine y_iadd (v := 56) rfl (by decide) ?_
              refine x_iconst (v := 0) rfl ki_0 ?_
              refine y_iast (N := 50660) 56 rfl (F.1 126 (100, 50660) rfl rfl) rfl (jinb_of (by decide)) (by decide) ?_
              refine x_iinc (x := 36) (v := 37) (ls' := [(9, .int 37), (8, .int 20), (7, .int 0), (6, .int 1), (0, .ref 125), (1, .int a1), (2, .int a2), (3, .int a3), (4, .int a4), (5, .int a5)]) rfl rfl (by decide) rfl rfl ?_
              refine x_goto (tgt := 117) rfl rfl ?_
              refine x_iload (x := 37) rfl rfl ?_
              refine x_bipush (v := 90) rfl kb_90 ?_
              refine x_icge (tgt := 141) rfl rfl (br_f (by decide) ?_)
              refine x_aloadn (x := 125) rfl rfl ?_
              refine x_getR (b := 126) 12 2 rfl f_12_8 rfl (congrArg Prod.fst (F.1 125 (12, 92) rfl rfl)) (F.2.1 16002 126 rfl rfl) ?_
              refine x_iload (x := 20) rfl rfl ?_
              refine x_iload (x := 37) rfl rfl ?_
              refine y_iadd (v := 57) rfl (by decide) ?_
              refine x_iconst (v := 0) rfl ki_0 ?_
              refine y_iast (N := 50660) 57 rfl (F.1 126 (100, 50660) rfl rfl) rfl (jinb_of (by decide)) (by decide) ?_
              refine x_iinc (x := 37) (v := 38) (ls' := [(9, .int 38), (8, .int 20), (7, .int 0), (6, .int 1), (0, .ref 125), (1, .int a1), (2, .int a2), (3, .int a3), (4, .int a4), (5, .int a5)]) rfl rfl (by decide) rfl rfl ?_
              refine x_goto (tgt := 117) rfl rfl ?_
              refine x_iload (x := 38) rfl rfl ?_
              refine x_bipush (v := 90) rfl kb_90 ?_
              refine x_icge (tgt := 141) rfl rfl (br_f (by decide) ?_)
              refine x_aloadn (x := 125) rfl rfl ?_
              refine x_getR (b := 126) 12 2 rfl f_12_8 rfl (congrArg Prod.fst (F.1 125 (12, 92) rfl rfl)) (F.2.1 16002 126 rfl rfl) ?_
              refine x_iload (x := 20) rfl rfl ?_
              refine x_iload (x := 38) rfl rfl ?_
              refine y_iadd (v := 58) rfl (by decide) ?_
              refine x_iconst (v := 0) rfl ki_0 ?_
              refine y_iast (N := 50660) 58 rfl (F.1 126 (100, 50660) rfl rfl) rfl (jinb_of (by decide)) (by decide) ?_
              refine x_iinc (x := 38) (v := 39) (ls' := [(9, .int 39), (8, .int 20), (7, .int 0), (6, .int 1), (0, .ref 125), (1, .int a1), (2, .int a2), (3, .int a3), (4, .int a4), (5, .int a5)]) rfl rfl (by decide) rfl rfl ?_
              refine x_goto (tgt := 117) rfl rfl ?_
              refine x_iload (x := 39) rfl rfl ?_
              refine x_bipush (v := 90) rfl kb_90 ?_
              refine x_icge (tgt := 141) rfl rfl (br_f (by decide) ?_)
              refine x_aloadn (x := 125) rfl rfl ?_
              refine x_getR (b := 126) 12 2 rfl f_12_8 rfl (congrArg Prod.fst (F.1 125 (12, 92) rfl rfl)) (F.2.1 16002 126 rfl rfl) ?_
              refine x_iload (x := 20) rfl rfl ?_
              refine x_iload (x := 39) rfl rfl ?_
              refine y_iadd (v := 59) rfl (by decide) ?_
              refine x_iconst (v := 0) rfl ki_0 ?_
              refine y_iast (N := 50660) 59 rfl (F.1 126 (100, 50660) rfl rfl) rfl (jinb_of (by decide)) (by decide) ?_
              refine x_iinc (x := 39) (v := 40) (ls' := [(9, .int 40), (8, .int 20), (7, .int 0), (6, .int 1), (0, .ref 125), (1, .int a1), (2, .int a2), (3, .int a3), (4, .int a4), (5, .int a5)]) rfl rfl (by decide) rfl rfl ?_
              refine x_goto (tgt := 117) rfl rfl ?_
              refine x_iload (x := 40) rfl rfl ?_
              refine x_bipush (v := 90) rfl kb_90 ?_
              refine x_icge (tgt := 141) rfl rfl (br_f (by decide) ?_)
              refine x_aloadn (x := 125) rfl rfl ?_
              refine x_getR (b := 126) 12 2 rfl f_12_8 rfl (congrArg Prod.fst (F.1 125 (12, 92) rfl rfl)) (F.2.1 16002 126 rfl rfl) ?_
              refine x_iload (x := 20) rfl rfl ?_
              refine x_iload (x := 40) rfl rfl ?_
              refine y_iadd (v := 60) rfl (by decide) ?_
              refine x_iconst (v := 0) rfl ki_0 ?_
              refine y_iast (N := 50660) 60 rfl (F.1 126 (100, 50660) rfl rfl) rfl (jinb_of (by decide)) (by decide) ?_
              refine x_iinc (x := 40) (v := 41) (ls' := [(9, .int 41), (8, .int 20), (7, .int 0), (6, .int 1), (0, .ref 125), (1, .int a1), (2, .int a2), (3, .int a3), (4, .int a4), (5, .int a5)]) rfl rfl (by decide) rfl rfl ?_
              refine x_goto (tgt := 117) rfl rfl ?_
              refine x_iload (x := 41) rfl rfl ?_
              refine x_bipush (v := 90) rfl kb_90 ?_
              refine x_icge (tgt := 141) rfl rfl (br_f (by decide) ?_)
              refine x_aloadn (x := 125) rfl rfl ?_
              refine x_getR (b := 126) 12 2 rfl f_12_8 rfl (congrArg Prod.fst (F.1 125 (12, 92) rfl rfl)) (F.2.1 16002 126 rfl rfl) ?_
              refine x_iload (x := 20) rfl rfl ?_
              refine x_iload (x := 41) rfl rfl ?_
              refine y_iadd (v := 61) rfl (by decide) ?_
              refine x_iconst (v := 0) rfl ki_0 ?_
              refine y_iast (N := 50660) 61 rfl (F.1 126 (100, 50660) rfl rfl) rfl (jinb_of (by decide)) (by decide) ?_
              refine x_iinc (x := 41) (v := 42) (ls' := [(9, .int 42), (8, .int 20), (7, .int 0), (6, .int 1), (0, .ref 125), (1, .int a1), (2, .int a2), (3, .int a3), (4, .int a4), (5, .int a5)]) rfl rfl (by decide) rfl rfl ?_
              refine x_goto (tgt := 117) rfl rfl ?_
              refine x_iload (x := 42) rfl rfl ?_
              refine x_bipush (v := 90) rfl kb_90 ?_
              refine x_icge (tgt := 141) rfl rfl (br_f (by decide) ?_)
              refine x_aloadn (x := 125) rfl rfl ?_
              refine x_getR (b := 126) 12 2 rfl f_12_8 rfl (congrArg Prod.fst (F.1 125 (12, 92) rfl rfl)) (F.2.1 16002 126 rfl rfl) ?_
              refine x_iload (x := 20) rfl rfl ?_
              refine x_iload (x := 42) rfl rfl ?_
              refine y_iadd (v := 62) rfl (by decide) ?_
              refine x_iconst (v := 0) rfl ki_0 ?_
              refine y_iast (N := 50660) 62 rfl (F.1 126 (100, 50660) rfl rfl) rfl (jinb_of (by decide)) (by decide) ?_
              refine x_iinc (x := 42) (v := 43) (ls' := [(9, .int 43), (8, .int 20), (7, .int 0), (6, .int 1), (0, .ref 125), (1, .int a1), (2, .int a2), (3, .int a3), (4, .int a4), (5, .int a5)]) rfl rfl (by decide) rfl rfl ?_
              refine x_goto (tgt := 117) rfl rfl ?_
              refine x_iload (x := 43) rfl rfl ?_
              refine x_bipush (v := 90) rfl kb_90 ?_
              refine x_icge (tgt := 141) rfl rfl (br_f (by decide) ?_)
              refine x_aloadn (x := 125) rfl rfl ?_
              refine x_getR (b := 126) 12 2 rfl f_12_8 rfl (congrArg Prod.fst (F.1 125 (12, 92) rfl rfl)) (F.2.1 16002 126 rfl rfl) ?_
              refine x_iload (x := 20) rfl rfl ?_
              refine x_iload (x := 43) rfl rfl ?_
              refine y_iadd (v := 63) rfl (by decide) ?_
              refine x_iconst (v := 0) rfl ki_0 ?_
              refine y_iast (N := 50660) 63 rfl (F.1 126 (100, 50660) rfl rfl) rfl (jinb_of (by decide)) (by decide) ?_
              refine x_iinc (x := 43) (v := 44) (ls' := [(9, .int 44), (8, .int 20), (7, .int 0), (6, .int 1), (0, .ref 125), (1, .int a1), (2, .int a2), (3, .int a3), (4, .int a4), (5, .int a5)]) rfl rfl (by decide) rfl rfl ?_
              refine x_goto (tgt := 117) rfl rfl ?_
              refine x_iload (x := 44) rfl rfl ?_
              refine x_bipush (v := 90) rfl kb_90 ?_
              refine x_icge (tgt := 141) rfl rfl (br_f (by decide) ?_)
              refine x_aloadn (x := 125) rfl rfl ?_
              refine x_getR (b := 126) 12 2 rfl f_12_8 rfl (congrArg Prod.fst (F.1 125 (12, 92) rfl rfl)) (F.2.1 16002 126 rfl rfl) ?_
              refine x_iload (x := 20) rfl rfl ?_
              refine x_iload (x := 44) rfl rfl ?_
              refine y_iadd (v := 64) rfl (by decide) ?_
              refine x_iconst (v := 0) rfl ki_0 ?_
              refine y_iast (N := 50660) 64 rfl (F.1 126 (100, 50660) rfl rfl) rfl (jinb_of (by decide)) (by decide) ?_
              refine x_iinc (x := 44) (v := 45) (ls' := [(9, .int 45), (8, .int 20), (7, .int 0), (6, .int 1), (0, .ref 125), (1, .int a1), (2, .int a2), (3, .int a3), (4, .int a4), (5, .int a5)]) rfl rfl (by decide) rfl rfl ?_
              refine x_goto (tgt := 117) rfl rfl ?_
              refine x_iload (x := 45) rfl rfl ?_
              refine x_bipush (v := 90) rfl kb_90 ?_
              refine x_icge (tgt := 141) rfl rfl (br_f (by decide) ?_)
              refine x_aloadn (x := 125) rfl rfl ?_
              refine x_getR (b := 126) 12 2 rfl f_12_8 rfl (congrArg Prod.fst (F.1 125 (12, 92) rfl rfl)) (F.2.1 16002 126 rfl rfl) ?_
              refine x_iload (x := 20) rfl rfl ?_
              refine x_iload (x := 45) rfl rfl ?_
              refine y_iadd (v := 65) rfl (by decide) ?_
              refine x_iconst (v := 0) rfl ki_0 ?_
              refine y_iast (N := 50660) 65 rfl (F.1 126 (100, 50660) rfl rfl) rfl (jinb_of (by decide)) (by decide) ?_
              refine x_iinc (x := 45) (v := 46) (ls' := [(9, .int 46), (8, .int 20), (7, .int 0), (6, .int 1), (0, .ref 125), (1, .int a1), (2, .int a2), (3, .int a3), (4, .int a4), (5, .int a5)]) rfl rfl (by decide) rfl rfl ?_
              refine x_goto (tgt := 117) rfl rfl ?_
              refine x_iload (x := 46) rfl rfl ?_
              refine x_bipush (v := 90) rfl kb_90 ?_
              refine x_icge (tgt := 141) rfl rfl (br_f (by decide) ?_)
              refine x_aloadn (x := 125) rfl rfl ?_
              refine x_getR (b := 126) 12 2 rfl f_12_8 rfl (congrArg Prod.fst (F.1 125 (12, 92) rfl rfl)) (F.2.1 16002 126 rfl rfl) ?_
              refine x_iload (x := 20) rfl rfl ?_
              refine x_iload (x := 46) rfl rfl ?_
              refine y_iadd (v := 66) rfl (by decide) ?_
              refine x_iconst (v := 0) rfl ki_0 ?_
              refine y_iast (N := 50660) 66 rfl (F.1 126 (100, 50660) rfl rfl) rfl (jinb_of (by decide)) (by decide) ?_
              refine x_iinc (x := 46) (v := 47) (ls' := [(9, .int 47), (8, .int 20), (7, .int 0), (6, .int 1), (0, .ref 125), (1, .int a1), (2, .int a2), (3, .int a3), (4, .int a4), (5, .int a5)]) rfl rfl (by decide) rfl rfl ?_
              refine x_goto (tgt := 117) rfl rfl ?_
              refine x_iload (x := 47) rfl rfl ?_
              refine x_bipush (v := 90) rfl kb_90 ?_
              refine x_icge (tgt := 141) rfl rfl (br_f (by decide) ?_)
              refine x_aloadn (x := 125) rfl rfl ?_
              refine x_getR (b := 126) 12 2 rfl f_12_8 rfl (congrArg Prod.fst (F.1 125 (12, 92) rfl rfl)) (F.2.1 16002 126 rfl rfl) ?_
              refine x_iload (x := 20) rfl rfl ?_
              refine x_iload (x := 47) rfl rfl ?_
              refine y_iadd (v := 67) rfl (by decide) ?_
              refine x_iconst (v := 0) rfl ki_0 ?_
              refine y_iast (N := 50660) 67 rfl (F.1 126 (100, 50660) rfl rfl) rfl (jinb_of (by decide)) (by decide) ?_
              refine x_iinc (x := 47) (v := 48) (ls' := [(9, .int 48), (8, .int 20), (7, .int 0), (6, .int 1), (0, .ref 125), (1, .int a1), (2, .int a2), (3, .int a3), (4, .int a4), (5, .int a5)]) rfl rfl (by decide) rfl rfl ?_
              refine x_goto (tgt := 117) rfl rfl ?_
              refine x_iload (x := 48) rfl rfl ?_
              refine x_bipush (v := 90) rfl kb_90 ?_
              refine x_icge (tgt := 141) rfl rfl (br_f (by decide) ?_)
              refine x_aloadn (x := 125) rfl rfl ?_
              refine x_getR (b := 126) 12 2 rfl f_12_8 rfl (congrArg Prod.fst (F.1 125 (12, 92) rfl rfl)) (F.2.1 16002 126 rfl rfl) ?_
              refine x_iload (x := 20) rfl rfl ?_
              refine x_iload (x := 48) rfl rfl ?_
              refine y_iadd (v := 68) rfl (by decide) ?_
              refine x_iconst (v := 0) rfl ki_0 ?_
              refine y_iast (N := 50660) 68 rfl (F.1 126 (100, 50660) rfl rfl) rfl (jinb_of (by decide)) (by decide) ?_
              refine x_iinc (x := 48) (v := 49) (ls' := [(9, .int 49), (8, .int 20), (7, .int 0), (6, .int 1), (0, .ref 125), (1, .int a1), (2, .int a2), (3, .int a3), (4, .int a4), (5, .int a5)]) rfl rfl (by decide) rfl rfl ?_
              refine x_goto (tgt := 117) rfl rfl ?_
              refine x_iload (x := 49) rfl rfl ?_
              refine x_bipush (v := 90) rfl kb_90 ?_
              refine x_icge (tgt := 141) rfl rfl (br_f (by decide) ?_)
              refine x_aloadn (x := 125) rfl rfl ?_
              refine x_getR (b := 126) 12 2 rfl f_12_8 rfl (congrArg Prod.fst (F.1 125 (12, 92) rfl rfl)) (F.2.1 16002 126 rfl rfl) ?_
              refine x_iload (x := 20) rfl rfl ?_
              refine x_iload (x := 49) rfl rfl ?_
              refine y_iadd (v := 69) rfl (by decide) ?_
              refine x_iconst (v := 0) rfl ki_0 ?_
              refine y_iast (N := 50660) 69 rfl (F.1 126 (100, 50660) rfl rfl) rfl (jinb_of (by decide)) (by decide) ?_
              refine x_iinc (x := 49) (v := 50) (ls' := [(9, .int 50), (8, .int 20), (7, .int 0), (6, .int 1), (0, .ref 125), (1, .int a1), (2, .int a2), (3, .int a3), (4, .int a4), (5, .int a5)]) rfl rfl (by decide) rfl rfl ?_
              refine x_goto (tgt := 117) rfl rfl ?_
              refine x_iload (x := 50) rfl rfl ?_
              refine x_bipush (v := 90) rfl kb_90 ?_
              refine x_icge (tgt := 141) rfl rfl (br_f (by decide) ?_)
              refine x_aloadn (x := 125) rfl rfl ?_
              refine x_getR (b := 126) 12 2 rfl f_12_8 rfl (congrArg Prod.fst (F.1 125 (12, 92) rfl rfl)) (F.2.1 16002 126 rfl rfl) ?_
              refine x_iload (x := 20) rfl rfl ?_
              refine x_iload (x := 50) rfl rfl ?_
              refine y_iadd (v := 70) rfl (by decide) ?_
              refine x_iconst (v := 0) rfl ki_0 ?_
              refine y_iast (N := 50660) 70 rfl (F.1 126 (100, 50660) rfl rfl) rfl (jinb_of (by decide)) (by decide) ?_
              refine x_iinc (x := 50) (v := 51) (ls' := [(9, .int 51), (8, .int 20), (7, .int 0), (6, .int 1), (0, .ref 125), (1, .int a1), (2, .int a2), (3, .int a3), (4, .int a4), (5, .int a5)]) rfl rfl (by decide) rfl rfl ?_
              refine x_goto (tgt := 117) rfl rfl ?_
              refine x_iload (x := 51) rfl rfl ?_
              refine x_bipush (v := 90) rfl kb_90 ?_
              refine x_icge (tgt := 141) rfl rfl (br_f (by decide) ?_)
              refine x_aloadn (x := 125) rfl rfl ?_
              refine x_getR (b := 126) 12 2 rfl f_12_8 rfl (congrArg Prod.fst (F.1 125 (12, 92) rfl rfl)) (F.2.1 16002 126 rfl rfl) ?_
              refine x_iload (x := 20) rfl rfl ?_
              refine x_iload (x := 51) rfl rfl ?_
              refine y_iadd (v := 71) rfl (by decide) ?_
              refine x_iconst (v := 0) rfl ki_0 ?_
              refine y_iast (N := 50660) 71 rfl (F.1 126 (100, 50660) rfl rfl) rfl (jinb_of (by decide)) (by decide) ?_
              refine x_iinc (x := 51) (v := 52) (ls' := [(9, .int 52), (8, .int 20), (7, .int 0), (6, .int 1), (0, .ref 125), (1, .int a1), (2, .int a2), (3, .int a3), (4, .int a4), (5, .int a5)]) rfl rfl (by decide) rfl rfl ?_
              refine x_goto (tgt := 117) rfl rfl ?_
              refine x_iload (x := 52) rfl rfl ?_
              refine x_bipush (v := 90) rfl kb_90 ?_
              refine x_icge (tgt := 141) rfl rfl (br_f (by decide) ?_)
              refine x_aloadn (x := 125) rfl rfl ?_
              refine x_getR (b := 126) 12 2 rfl f_12_8 rfl (congrArg Prod.fst (F.1 125 (12, 92) rfl rfl)) (F.2.1 16002 126 rfl rfl) ?_
              refine x_iload (x := 20) rfl rfl ?_
              refine x_iload (x := 52) rfl rfl ?_
              refine y_iadd (v := 72) rfl (by decide) ?_
              refine x_iconst (v := 0) rfl ki_0 ?_
              refine y_iast (N := 50660) 72 rfl (F.1 126 (100, 50660) rfl rfl) rfl (jinb_of (by decide)) (by decide) ?_
              refine x_iinc (x := 52) (v := 53) (ls' := [(9, .int 53), (8, .int 20), (7, .int 0), (6, .int 1), (0, .ref 125), (1, .int a1), (2, .int a2), (3, .int a3), (4, .int a4), (5, .int a5)]) rfl rfl (by decide) rfl rfl ?_
              refine x_goto (tgt := 117) rfl rfl ?_
              refine x_iload (x := 53) rfl rfl ?_
              refine x_bipush (v := 90) rfl kb_90 ?_
              refine x_icge (tgt := 141) rfl rfl (br_f (by decide) ?_)
              refine x_aloadn (x := 125) rfl rfl ?_
              refine x_getR (b := 126) 12 2 rfl f_12_8 rfl (congrArg Prod.fst (F.1 125 (12, 92) rfl rfl)) (F.2.1 16002 126 rfl rfl) ?_
              refine x_iload (x := 20) rfl rfl ?_
              refine x_iload (x := 53) rfl rfl ?_
              refine y_iadd (v := 73) rfl (by decide) ?_
              refine x_iconst (v := 0) rfl ki_0 ?_
              refine y_iast (N := 50660) 73 rfl (F.1 126 (100, 50660) rfl rfl) rfl (jinb_of (by decide)) (by decide) ?_
              refine x_iinc (x := 53) (v := 54) (ls' := [(9, .int 54), (8, .int 20), (7, .int 0), (6, .int 1), (0, .ref 125), (1, .int a1), (2, .int a2), (3, .int a3), (4, .int a4), (5, .int a5)]) rfl rfl (by decide) rfl rfl ?_
              refine x_goto (tgt := 117) rfl rfl ?_
              refine x_iload (x := 54) rfl rfl ?_
              refine x_bipush (v := 90) rfl kb_90 ?_
              refine x_icge (tgt := 141) rfl rfl (br_f (by decide) ?_)
              refine x_aloadn (x := 125) rfl rfl ?_
              refine x_getR (b := 126) 12 2 rfl f_12_8 rfl (congrArg Prod.fst (F.1 125 (12, 92) rfl rfl)) (F.2.1 16002 126 rfl rfl) ?_
              refine x_iload (x := 20) rfl rfl ?_
              refine x_iload (x := 54) rfl rfl ?_
              refine y_iadd (v := 74) rfl (by decide) ?_
              refine x_iconst (v := 0) rfl ki_0 ?_
              refine y_iast (N := 50660) 74 rfl (F.1 126 (100, 50660) rfl rfl) rfl (jinb_of (by decide)) (by decide) ?_
              refine x_iinc (x := 54) (v := 55) (ls' := [(9, .int 55), (8, .int 20), (7, .int 0), (6, .int 1), (0, .ref 125), (1, .int a1), (2, .int a2), (3, .int a3), (4, .int a4), (5, .int a5)]) rfl rfl (by decide) rfl rfl ?_
              refine x_goto (tgt := 117) rfl rfl ?_
              refine x_iload (x := 55) rfl rfl ?_
              refine x_bipush (v := 90) rfl kb_90 ?_
              refine x_icge (tgt := 141) rfl rfl (br_f (by decide) ?_)
              refine x_aloadn (x := 125) rfl rfl ?_
              refine x_getR (b := 126) 12 2 rfl f_12_8 rfl (congrArg Prod.fst (F.1 125 (12, 92) rfl rfl)) (F.2.1 16002 126 rfl rfl) ?_
              refine x_iload (x := 20) rfl rfl ?_
              refine x_iload (x := 55) rfl rfl ?_
              refine y_iadd (v := 75) rfl (by decide) ?_
              refine x_iconst (v := 0) rfl ki_0 ?_
              refine y_iast (N := 50660) 75 rfl (F.1 126 (100, 50660) rfl rfl) rfl (jinb_of (by decide)) (by decide) ?_
              refine x_iinc (x := 55) (v := 56) (ls' := [(9, .int 56), (8, .int 20), (7, .int 0), (6, .int 1), (0, .ref 125), (1, .int a1), (2, .int a2), (3, .int a3), (4, .int a4), (5, .int a5)]) rfl rfl (by decide) rfl rfl ?_
              refine x_goto (tgt := 117) rfl rfl ?_
              refine x_iload (x := 56) rfl rfl ?_
              refine x_bipush (v := 90) rfl kb_90 ?_
              refine x_icge (tgt := 141) rfl rfl (br_f (by decide) ?_)
              refine x_aloadn (x := 125) rfl rfl ?_
              refine x_getR (b := 126) 12 2 rfl f_12_8 rfl (congrArg Prod.fst (F.1 125 (12, 92) rfl rfl)) (F.2.1 16002 126 rfl rfl) ?_
              refine x_iload (x := 20) rfl rfl ?_
              refine x_iload (x := 56) rfl rfl ?_
              refine y_iadd (v := 76) rfl (by decide) ?_
              refine x_iconst (v := 0) rfl ki_0 ?_
              refine y_iast (N := 50660) 76 rfl (F.1 126 (100, 50660) rfl rfl) rfl (jinb_of (by decide)) (by decide) ?_
              refine x_iinc (x := 56) (v := 57) (ls' := [(9, .int 57), (8, .int 20), (7, .int 0), (6, .int 1), (0, .ref 125), (1, .int a1), (2, .int a2), (3, .int a3), (4, .int a4), (5, .int a5)]) rfl rfl (by decide) rfl rfl ?_
              refine x_goto (tgt := 117) rfl rfl ?_
              refine x_iload (x := 57) rfl rfl ?_
              refine x_bipush (v := 90) rfl kb_90 ?_
              refine x_icge (tgt := 141) rfl rfl (br_f (by decide) ?_)
              refine x_aloadn (x := 125) rfl rfl ?_
              refine x_getR (b := 126) 12 2 rfl f_12_8 rfl (congrArg Prod.fst (F.1 125 (12, 92) rfl rfl)) (F.2.1 16002 126 rfl rfl) ?_
              refine x_iload (x := 20) rfl rfl ?_
              refine x_iload (x := 57) rfl rfl ?_
              refine y_iadd (v := 77) rfl (by decide) ?_
              refine x_iconst (v := 0) rfl ki_0 ?_
              refine y_iast (N := 50660) 77 rfl (F.1 126 (100, 50660) rfl rfl) rfl (jinb_of (by decide)) (by decide) ?_
              refine x_iinc (x := 57) (v := 58) (ls' := [(9, .int 58), (8, .int 20), (7, .int 0), (6, .int 1), (0, .ref 125), (1, .int a1), (2, .int a2), (3, .int a3), (4, .int a4), (5, .int a5)]) rfl rfl (by decide) rfl rfl ?_
              refine x_goto (tgt := 117) rfl rfl ?_
              refine x_iload (x := 58) rfl rfl ?_
              refine x_bipush (v := 90) rfl kb_90 ?_
              refine x_icge (tgt := 141) rfl rfl (br_f (by decide) ?_)
              refine x_aloadn (x := 125) rfl rfl ?_
              refine x_getR (b := 126) 12 2 rfl f_12_8 rfl (congrArg Prod.fst (F.1 125 (12, 92) rfl rfl)) (F.2.1 16002 126 rfl rfl) ?_
              refine x_iload (x := 20) rfl rfl ?_
              refine x_iload (x := 58) rfl rfl ?_
              refine y_iadd (v := 78) rfl (by decide) ?_
              refine x_iconst (v := 0) rfl ki_0 ?_
              refine y_iast (N := 50660) 78 rfl (F.1 126 (100, 50660) rfl rfl) rfl (jinb_of (by decide)) (by decide) ?_
              refine x_iinc (x := 58) (v := 59) (ls' := [(9, .int 59), (8, .int 20), (7, .int 0), (6, .int 1), (0, .ref 125), (1, .int a1), (2, .int a2), (3, .int a3), (4, .int a4), (5, .int a5)]) rfl rfl (by decide) rfl rfl ?_
              refine x_goto (tgt := 117) rfl rfl ?_
              refine x_iload (x := 59) rfl rfl ?_
              refine x_bipush (v := 90) rfl kb_90 ?_
              refine x_icge (tgt := 141) rfl rfl (br_f (by decide) ?_)
              refine x_aloadn (x := 125) rfl rfl ?_
              refine x_getR (b := 126) 12 2 rfl f_12_8 rfl (congrArg Prod.fst (F.1 125 (12, 92) rfl rfl)) (F.2.1 16002 126 rfl rfl) ?_
              refine x_iload (x := 20) rfl rfl ?_
              refine x_iload (x := 59) rfl rfl ?_
              refine y_iadd (v := 79) rfl (by decide) ?_
              refine x_iconst (v := 0) rfl ki_0 ?_
              refine y_iast (N := 50660) 79 rfl (F.1 126 (100, 50660) rfl rfl) rfl (jinb_of (by decide)) (by decide) ?_
              refine x_iinc (x := 59) (v := 60) (ls' := [(9, .int 60), (8, .int 20), (7, .int 0), (6, .int 1), (0, .ref 125), (1, .int a1), (2, .int a2), (3, .int a3), (4, .int a4), (5, .int a5)]) rfl rfl (by decide) rfl rfl ?_
              refine x_goto (tgt := 117) rfl rfl ?_
              refine x_iload (x := 60) rfl rfl ?_
              refine x_bipush (v := 90) rfl kb_90 ?_
              refine x_icge (tgt := 141) rfl rfl (br_f (by decide) ?_)
              refine x_aloadn (x := 125) rfl rfl ?_
              refine x_getR (b := 126) 12 2 rfl f_12_8 rfl (congrArg Prod.fst (F.1 125 (12, 92) rfl rfl)) (F.2.1 16002 126 rfl rfl) ?_
              refine x_iload (x := 20) rfl rfl ?_
              refine x_iload (x := 60) rfl rfl ?_
              refine y_iadd (v := 80) rfl (by decide) ?_
              refine x_iconst (v := 0) rfl ki_0 ?_
              refine y_iast (N := 50660) 80 rfl (F.1 126 (100, 50660) rfl rfl) rfl (jinb_of (by decide)) (by decide) ?_
              refine x_iinc (x := 60) (v := 61) (ls' := [(9, .int 61), (8, .int 20), (7, .int 0), (6, .int 1), (0, .ref 125), (1, .int a1), (2, .int a2), (3, .int a3), (4, .int a4), (5, .int a5)]) rfl rfl (by decide) rfl rfl ?_
              refine x_goto (tgt := 117) rfl rfl ?_
              refine x_iload (x := 61) rfl rfl ?_
              refine x_bipush (v := 90) rfl kb_90 ?_
              refine x_icge (tgt := 141) rfl rfl (br_f (by decide) ?_)
              refine x_aloadn (x := 125) rfl rfl ?_
              refine x_getR (b := 126) 12 2 rfl f_12_8 rfl (congrArg Prod.fst (F.1 125 (12, 92) rfl rfl)) (F.2.1 16002 126 rfl rfl) ?_
              refine x_iload (x := 20) rfl rfl ?_
              refine x_iload (x := 61) rfl rfl ?_
              refine y_iadd (v := 81) rfl (by decide) ?_
              refine x_iconst (v := 0) rfl ki_0 ?_
              refine y_iast (N := 50660) 81 rfl (F.1 126 (100, 50660) rfl rfl) rfl (jinb_of (by decide)) (by decide) ?_
              refine x_iinc (x := 61) (v := 62) (ls' := [(9, .int 62), (8, .int 20), (7, .int 0), (6, .int 1), (0, .ref 125), (1, .int a1), (2, .int a2), (3, .int a3), (4, .int a4), (5, .int a5)]) rfl rfl (by decide) rfl rfl ?_
              refine x_goto (tgt := 117) rfl rfl ?_
              refine x_iload (x := 62) rfl rfl ?_
              refine x_bipush (v := 90) rfl kb_90 ?_
              refine x_icge (tgt := 141) rfl rfl (br_f (by decide) ?_)
              refine x_aloadn (x := 125) rfl rfl ?_
              refine x_getR (b := 126) 12 2 rfl f_12_8 rfl (congrArg Prod.fst (F.1 125 (12, 92) rfl rfl)) (F.2.1 16002 126 rfl rfl) ?_
              refine x_iload (x := 20) rfl rfl ?_
              refine x_iload (x := 62) rfl rfl ?_
              refine y_iadd (v := 82) rfl (by decide) ?_
              refine x_iconst (v := 0) rfl ki_0 ?_
              refine y_iast (N := 50660) 82 rfl (F.1 126 (100, 50660) rfl rfl) rfl (jinb_of (by decide)) (by decide) ?_
              refine x_iinc (x := 62) (v := 63) (ls' := [(9, .int 63), (8, .int 20), (7, .int 0), (6, .int 1), (0, .ref 125), (1, .int a1), (2, .int a2), (3, .int a3), (4, .int a4), (5, .int a5)]) rfl rfl (by decide) rfl rfl ?_
              refine x_goto (tgt := 117) rfl rfl ?_
              refine x_iload (x := 63) rfl rfl ?_
              refine x_bipush (v := 90) rfl kb_90 ?_
              refine x_icge (tgt := 141) rfl rfl (br_f (by decide) ?_)
              refine x_aloadn (x := 125) rfl rfl ?_
              refine x_getR (b := 126) 12 2 rfl f_12_8 rfl (congrArg Prod.fst (F.1 125 (12, 92) rfl rfl)) (F.2.1 16002 126 rfl rfl) ?_
              refine x_iload (x := 20) rfl rfl ?_
              refine x_iload (x := 63) rfl rfl ?_
              refine y_iadd (v := 83) rfl (by decide) ?_
              refine x_iconst (v := 0) rfl ki_0 ?_
              refine y_iast (N := 50660) 83 rfl (F.1 126 (100, 50660) rfl rfl) rfl (jinb_of (by decide)) (by decide) ?_
              refine x_iinc (x := 63) (v := 64) (ls' := [(9, .int 64), (8, .int 20), (7, .int 0), (6, .int 1), (0, .ref 125), (1, .int a1), (2, .int a2), (3, .int a3), (4, .int a4), (5, .int a5)]) rfl rfl (by decide) rfl rfl ?_
              refine x_goto (tgt := 117) rfl rfl ?_
              refine x_iload (x := 64) rfl rfl ?_
              refine x_bipush (v := 90) rfl kb_90 ?_
              refine x_icge (tgt := 141) rfl rfl (br_f (by decide) ?_)
              refine x_aloadn (x := 125) rfl rfl ?_
              refine x_getR (b := 126) 12 2 rfl f_12_8 rfl (congrArg Prod.fst (F.1 125 (12, 92) rfl rfl)) (F.2.1 16002 126 rfl rfl) ?_
              refine x_iload (x := 20) rfl rfl ?_
              refine x_iload (x := 64) rfl rfl ?_
              refine y_iadd (v := 84) rfl (by decide) ?_
              refine x_iconst (v := 0) rfl ki_0 ?_
              refine y_iast (N := 50660) 84 rfl (F.1 126 (100, 50660) rfl rfl) rfl (jinb_of (by decide)) (by decide) ?_
              refine x_iinc (x := 64) (v := 65) (ls' := [(9, .int 65), (8, .int 20), (7, .int 0), (6, .int 1), (0, .ref 125), (1, .int a1), (2, .int a2), (3, .int a3), (4, .int a4), (5, .int a5)]) rfl rfl (by decide) rfl rfl ?_
              refine x_goto (tgt := 117) rfl rfl ?_
              refine x_iload (x := 65) rfl rfl ?_
              refine x_bipush (v := 90) rfl kb_90 ?_
              refine x_icge (tgt := 141) rfl rfl (br_f (by decide) ?_)
              refine x_aloadn (x := 125) rfl rfl ?_
              refine x_getR (b := 126) 12 2 rfl f_12_8 rfl (congrArg Prod.fst (F.1 125 (12, 92) rfl rfl)) (F.2.1 16002 126 rfl rfl) ?_
              refine x_iload (x := 20) rfl rfl ?_
              refine x_iload (x := 65) rfl rfl ?_
              refine y_iadd (v := 85) rfl (by decide) ?_
              refine x_iconst (v := 0) rfl ki_0 ?_
              refine y_iast (N := 50660) 85 rfl (F.1 126 (100, 50660) rfl rfl) rfl (jinb_of (by decide)) (by decide) ?_
              refine x_iinc (x := 65) (v := 66) (ls' := [(9, .int 66), (8, .int 20), (7, .int 0), (6, .int 1), (0, .ref 125), (1, .int a1), (2, .int a2), (3, .int a3), (4, .int a4), (5, .int a5)]) rfl rfl (by decide) rfl rfl ?_
              refine x_goto (tgt := 117) rfl rfl ?_
              refine x_iload (x := 66) rfl rfl ?_
              refine x_bipush (v := 90) rfl kb_90 ?_
              refine x_icge (tgt := 141) rfl rfl (br_f (by decide) ?_)
              refine x_aloadn (x := 125) rfl rfl ?_
              refine x_getR (b := 126) 12 2 rfl f_12_8 rfl (congrArg Prod.fst (F.1 125 (12, 92) rfl rfl)) (F.2.1 16002 126 rfl rfl) ?_
              refine x_iload (x := 20) rfl rfl ?_
              refine x_iload (x := 66) rfl rfl ?_
              refine y_iadd (v := 86) rfl (by decide) ?_
              refine x_iconst (v := 0) rfl ki_0 ?_
              refine y_iast (N := 50660) 86 rfl (F.1 126 (100, 50660) rfl rfl) rfl (jinb_of (by decide)) (by decide) ?_
              refine x_iinc (x := 66) (v := 67) (ls' := [(9, .int 67), (8, .int 20), (7, .int 0), (6, .int 1), (0, .ref 125), (1, .int a1), (2, .int a2), (3, .int a3), (4, .int a4), (5, .int a5)]) rfl rfl (by decide) rfl rfl ?_
              refine x_goto (tgt := 117) rfl rfl ?_
              refine x_iload (x := 67) rfl rfl ?_
              refine x_bipush (v := 90) rfl kb_90 ?_
              refine x_icge (tgt := 141) rfl rfl (br_f (by decide) ?_)
              refine x_aloadn (x := 125) rfl rfl ?_
              refine x_getR (b := 126) 12 2 rfl f_12_8 rfl (congrArg Prod.fst (F.1 125 (12, 92) rfl rfl)) (F.2.1 16002 126 rfl rfl) ?_
              refine x_iload (x := 20) rfl rfl ?_
              refine x_iload (x := 67) rfl rfl ?_
              refine y_iadd (v := 87) rfl (by decide) ?_
              refine x_iconst (v := 0) rfl ki_0 ?_
              refine y_iast (N := 50660) 87 rfl (F.1 126 (100, 50660) rfl rfl) rfl (jinb_of (by decide)) (by decide) ?_
              refine x_iinc (x := 67) (v := 68) (ls' := [(9, .int 68), (8, .int 20), (7, .int 0), (6, .int 1), (0, .ref 125), (1, .int a1), (2, .int a2), (3, .int a3), (4, .int a4), (5, .int a5)]) rfl rfl (by decide) rfl rfl ?_
              refine x_goto (tgt := 117) rfl rfl ?_
              refine x_iload (x := 68) rfl rfl ?_
              refine x_bipush (v := 90) rfl kb_90 ?_
              refine x_icge (tgt := 141) rfl rfl (br_f (by decide) ?_)
              refine x_aloadn (x := 125) rfl rfl ?_
              refine x_getR (b := 126) 12 2 rfl f_12_8 rfl (congrArg Prod.fst (F.1 125 (12, 92) rfl rfl)) (F.2.1 16002 126 rfl rfl) ?_
              refine x_iload (x := 20) rfl rfl ?_
              refine x_iload (x := 68) rfl rfl ?_
              refine y_iadd (v := 88) rfl (by decide) ?_
              refine x_iconst (v := 0) rfl ki_0 ?_
              refine y_iast (N := 50660) 88 rfl (F.1 126 (100, 50660) rfl rfl) rfl (jinb_of (by decide)) (by decide) ?_
              refine x_iinc (x := 68) (v := 69) (ls' := [(9, .int 69), (8, .int 20), (7, .int 0), (6, .int 1), (0, .ref 125), (1, .int a1), (2, .int a2), (3, .int a3), (4, .int a4), (5, .int a5)]) rfl rfl (by decide) rfl rfl ?_
              refine x_goto (tgt := 117) rfl rfl ?_
              refine x_iload (x := 69) rfl rfl ?_
              refine x_bipush (v := 90) rfl kb_90 ?_
              refine x_icge (tgt := 141) rfl rfl (br_f (by decide) ?_)
              refine x_aloadn (x := 125) rfl rfl ?_
              refine x_getR (b := 126) 12 2 rfl f_12_8 rfl (congrArg Prod.fst (F.1 125 (12, 92) rfl rfl)) (F.2.1 16002 126 rfl rfl) ?_
              refine x_iload (x := 20) rfl rfl ?_
              refine x_iload (x := 69) rfl rfl ?_
              refine y_iadd (v := 89) rfl (by decide) ?_
              refine x_iconst (v := 0) rfl ki_0 ?_
              refine y_iast (N := 50660) 89 rfl (F.1 126 (100, 50660) rfl rfl) rfl (jinb_of (by decide)) (by decide) ?_
              refine x_iinc (x := 69) (v := 70) (ls' := [(9, .int 70), (8, .int 20), (7, .int 0), (6, .int 1), (0, .ref 125), (1, .int a1), (2, .int a2), (3, .int a3), (4, .int a4), (5, .int a5)]) rfl rfl (by decide) rfl rfl ?_
              refine x_goto (tgt := 117) rfl rfl ?_
              refine x_iload (x := 70) rfl rfl ?_
              refine x_bipush (v := 90) rfl kb_90 ?_
              refine x_icge (tgt := 141) rfl rfl (br_f (by decide) ?_)
              refine x_aloadn (x := 125) rfl rfl ?_
              refine x_getR (b := 126) 12 2 rfl f_12_8 rfl (congrArg Prod.fst (F.1 125 (12, 92) rfl rfl)) (F.2.1 16002 126 rfl rfl) ?_
              refine x_iload (x := 20) rfl rfl ?_
              refine x_iload (x := 70) rfl rfl ?_
              refine y_iadd (v := 90) rfl (by decide) ?_
              refine x_iconst (v := 0) rfl ki_0 ?_
              refine y_iast (N := 50660) 90 rfl (F.1 126 (100, 50660) rfl rfl) rfl (jinb_of (by decide)) (by decide) ?_
              refine x_iinc (x := 70) (v := 71) (ls' := [(9, .int 71), (8, .int 20), (7, .int 0), (6, .int 1), (0, .ref 125), (1, .int a1), (2, .int a2), (3, .int a3), (4, .int a4), (5, .int a5)]) rfl rfl (by decide) rfl rfl ?_
              refine x_goto (tgt := 117) rfl rfl ?_
              refine x_iload (x := 71) rfl rfl ?_
              refine x_bipush (v := 90) rfl kb_90 ?_
              refine x_icge (tgt := 141) rfl rfl (br_f (by decide) ?_)
              refine x_aloadn (x := 125) rfl rfl ?_
              refine x_getR (b := 126) 12 2 rfl f_12_8 rfl (congrArg Prod.fst (F.1 125 (12, 92) rfl rfl)) (F.2.1 16002 126 rfl rfl) ?_
              refine x_iload (x := 20) rfl rfl ?_
              refine x_iload (x := 71) rfl rfl ?_
              refine y_iadd (v := 91) rfl (by decide) ?_
              refine x_iconst (v := 0) rfl ki_0 ?_
              refine y_iast (N := 50660) 91 rfl (F.1 126 (100, 50660) rfl rfl) rfl (jinb_of (by decide)) (by decide) ?_
              refine x_iinc (x := 71) (v := 72) (ls' := [(9, .int 72), (8, .int 20), (7, .int 0), (6, .int 1), (0, .ref 125), (1, .int a1), (2, .int a2), (3, .int a3), (4, .int a4), (5, .int a5)]) rfl rfl (by decide) rfl rfl ?_
              refine x_goto (tgt := 117) rfl rfl ?_
              refine x_iload (x := 72) rfl rfl ?_
              refine x_bipush (v := 90) rfl kb_90 ?_
              refine x_icge (tgt := 141) rfl rfl (br_f (by decide) ?_)
              refine x_aloadn (x := 125) rfl rfl ?_
              refine x_getR (b := 126) 12 2 rfl f_12_8 rfl (congrArg Prod.fst (F.1 125 (12, 92) rfl rfl)) (F.2.1 16002 126 rfl rfl) ?_
              refine x_iload (x := 20) rfl rfl ?_
              refine x_iload (x := 72) rfl rfl ?_
              refine y_iadd (v := 92) rfl (by decide) ?_
              refine x_iconst (v := 0) rfl ki_0 ?_
              refine y_iast (N := 50660) 92 rfl (F.1 126 (100, 50660) rfl rfl) rfl (jinb_of (by decide)) (by decide) ?_
              refine x_iinc (x := 72) (v := 73) (ls' := [(9, .int 73), (8, .int 20), (7, .int 0), (6, .int 1), (0, .ref 125), (1, .int a1), (2, .int a2), (3, .int a3), (4, .int a4), (5, .int a5)]) rfl rfl (by decide) rfl rfl ?_
              refine x_goto (tgt := 117) rfl rfl ?_
              refine x_iload (x := 73) rfl rfl ?_
              refine x_bipush (v := 90) rfl kb_90 ?_
              refine x_icge (tgt := 141) rfl rfl (br_f (by decide) ?_)
              refine x_aloadn (x := 125) rfl rfl ?_
              refine x_getR (b := 126) 12 2 rfl f_12_8 rfl (congrArg Prod.fst (F.1 125 (12, 92) rfl rfl)) (F.2.1 16002 126 rfl rfl) ?_
              refine x_iload (x := 20) rfl rfl ?_
              refine x_iload (x := 73) rfl rfl ?_
              refine y_iadd (v := 93) rfl (by decide) ?_
              refine x_iconst (v := 0) rfl ki_0 ?_
              refine y_iast (N := 50660) 93 rfl (F.1 126 (100, 50660) rfl rfl) rfl (jinb_of (by decide)) (by decide) ?_
              refine x_iinc (x := 73) (v := 74) (ls' := [(9, .int 74), (8, .int 20), (7, .int 0), (6, .int 1), (0, .ref 125), (1, .int a1), (2, .int a2), (3, .int a3), (4, .int a4), (5, .int a5)]) rfl rfl (by decide) rfl rfl ?_
              refine x_goto (tgt := 117) rfl rfl ?_
              refine x_iload (x := 74) rfl rfl ?_
              refine x_bipush (v := 90) rfl kb_90 ?_
              refine x_icge (tgt := 141) rfl rfl (br_f (by decide) ?_)
              refine x_aloadn (x := 125) rfl rfl ?_
              refine x_getR (b := 126) 12 2 rfl f_12_8 rfl (congrArg Prod.fst (F.1 125 (12, 92) rfl rfl)) (F.2.1 16002 126 rfl rfl) ?_
              refine x_iload (x := 20) rfl rfl ?_
              refine x_iload (x := 74) rfl rfl ?_
              refine y_iadd (v := 94) rfl (by decide) ?_
              refine x_iconst (v := 0) rfl ki_0 ?_
              refine y_iast (N := 50660) 94 rfl (F.1 126 (100, 50660) rfl rfl) rfl (jinb_of (by decide)) (by decide) ?_
              refine x_iinc (x := 74) (v := 75) (ls' := [(9, .int 75), (8, .int 20), (7, .int 0), (6, .int 1), (0, .ref 125), (1, .int a1), (2, .int a2), (3, .int a3), (4, .int a4), (5, .int a5)]) rfl rfl (by decide) rfl rfl ?_
              refine x_goto (tgt := 117) rfl rfl ?_
              refine x_iload (x := 75) rfl rfl ?_
              refine x_bipush (v := 90) rfl kb_90 ?_
              refine x_icge (tgt := 141) rfl rfl (br_f (by decide) ?_)
              refine x_aloadn (x := 125) rfl rfl ?_
              refine x_getR (b := 126) 12 2 rfl f_12_8 rfl (congrArg Prod.fst (F.1 125 (12, 92) rfl rfl)) (F.2.1 16002 126 rfl rfl) ?_
              refine x_iload (x := 20) rfl rfl ?_
              refine x_iload (x := 75) rfl rfl ?_
              refine y_iadd (v := 95) rfl (by decide) ?_
              refine x_iconst (v := 0) rfl ki_0 ?_
              refine y_iast (N := 50660) 95 rfl (F.1 126 (100, 50660) rfl rfl) rfl (jinb_of (by decide)) (by decide) ?_
              refine x_iinc (x := 75) (v := 76) (ls' := [(9, .int 76), (8, .int 20), (7, .int 0), (6, .int 1), (0, .ref 125), (1, .int a1), (2, .int a2), (3, .int a3), (4, .int a4), (5, .int a5)]) rfl rfl (by decide) rfl rfl ?_
              refine x_goto (tgt := 117) rfl rfl ?_
              refine x_iload (x := 76) rfl rfl ?_
              refine x_bipush (v := 90) rfl kb_90 ?_
              refine x_icge (tgt := 141) rfl rfl (br_f (by decide) ?_)
              refine x_aloadn (x := 125) rfl rfl ?_
              refine x_getR (b := 126) 12 2 rfl f_12_8 rfl (congrArg Prod.fst (F.1 125 (12, 92) rfl rfl)) (F.2.1 16002 126 rfl rfl) ?_
              refine x_iload (x := 20) rfl rfl ?_
              refine x_iload (x := 76) rfl rfl ?_
              refine y_iadd (v := 96) rfl (by decide) ?_
              refine x_iconst (v := 0) rfl ki_0 ?_
              refine y_iast (N := 50660) 96 rfl (F.1 126 (100, 50660) rfl rfl) rfl (jinb_of (by decide)) (by decide) ?_
              refine x_iinc (x := 76) (v := 77) (ls' := [(9, .int 77), (8, .int 20), (7, .int 0), (6, .int 1), (0, .ref 125), (1, .int a1), (2, .int a2), (3, .int a3), (4, .int a4), (5, .int a5)]) rfl rfl (by decide) rfl rfl ?_
              refine x_goto (tgt := 117) rfl rfl ?_
              refine x_iload (x := 77) rfl rfl ?_
              refine x_bipush (v := 90) rfl kb_90 ?_
              refine x_icge (tgt := 141) rfl rfl (br_f (by decide) ?_)
              refine x_aloadn (x := 125) rfl rfl ?_
              refine x_getR (b := 126) 12 2 rfl f_12_8 rfl (congrArg Prod.fst (F.1 125 (12, 92) rfl rfl)) (F.2.1 16002 126 rfl rfl) ?_
              refine x_iload (x := 20) rfl rfl ?_
              refine x_iload (x := 77) rfl rfl ?_
              refine y_iadd (v := 97) rfl (by decide) ?_
              refine x_iconst (v := 0) rfl ki_0 ?_
              refine y_iast (N := 50660) 97 rfl (F.1 126 (100, 50660) rfl rfl) rfl (jinb_of (by decide)) (by decide) ?_
              refine x_iinc (x := 77) (v := 78) (ls' := [(9, .int 78), (8, .int 20), (7, .int 0), (6, .int 1), (0, .ref 125), (1, .int a1), (2, .int a2), (3, .int a3), (4, .int a4), (5, .int a5)]) rfl rfl (by decide) rfl rfl ?_
              refine x_goto (tgt := 117) rfl rfl ?_
              refine x_iload (x := 78) rfl rfl ?_
              refine x_bipush (v := 90) rfl kb_90 ?_
              refine x_icge (tgt := 141) rfl rfl (br_f (by decide) ?_)
              refine x_aloadn (x := 125) rfl rfl ?_
              refine x_getR (b := 126) 12 2 rfl f_12_8 rfl (congrArg Prod.fst (F.1 125 (12, 92) rfl rfl)) (F.2.1 16002 126 rfl rfl) ?_
              refine x_iload (x := 20) rfl rfl ?_
              refine x_iload (x := 78) rfl rfl ?_
              refine y_iadd (v := 98) rfl (by decide) ?_
              refine x_iconst (v := 0) rfl ki_0 ?_
              refine y_iast (N := 50660) 98 rfl (F.1 126 (100, 50660) rfl rfl) rfl (jinb_of (by decide)) (by decide) ?_
              refine x_iinc (x := 78) (v := 79) (ls' := [(9, .int 79), (8, .int 20), (7, .int 0), (6, .int 1), (0, .ref 125), (1, .int a1), (2, .int a2), (3, .int a3), (4, .int a4), (5, .int a5)]) rfl rfl (by decide) rfl rfl ?_
              refine x_goto (tgt := 117) rfl rfl ?_
              refine x_iload (x := 79) rfl rfl ?_
              refine x_bipush (v := 90) rfl kb_90 ?_
              refine x_icge (tgt := 141) rfl rfl (br_f (by decide) ?_)
              refine x_aloadn (x := 125) rfl rfl ?_
              refine x_getR (b := 126) 12 2 rfl f_12_8 rfl (congrArg Prod.fst (F.1 125 (12, 92) rfl rfl)) (F.2.1 16002 126 rfl rfl) ?_
              refine x_iload (x := 20) rfl rfl ?_
              refine x_iload (x := 79) rfl rfl ?_
              refine y_iadd (v := 99) rfl (by decide) ?_
              refine x_iconst (v := 0) rfl ki_0 ?_
              refine y_iast (N := 50660) 99 rfl (F.1 126 (100, 50660) rfl rfl) rfl (jinb_of (by decide)) (by decide) ?_
              refine x_iinc (x := 79) (v := 80) (ls' := [(9, .int 80), (8, .int 20), (7, .int 0), (6, .int 1), (0, .ref 125), (1, .int a1), (2, .int a2), (3, .int a3), (4, .int a4), (5, .int a5)]) rfl rfl (by decide) rfl rfl ?_
              refine x_goto (tgt := 117) rfl rfl ?_
              refine x_iload (x := 80) rfl rfl ?_
              refine x_bipush (v := 90) rfl kb_90 ?_
              refine x_icge (tgt := 141) rfl rfl (br_f (by decide) ?_)
              refine x_aloadn (x := 125) rfl rfl ?_
              refine x_getR (b := 126) 12 2 rfl f_12_8 rfl (congrArg Prod.fst (F.1 125 (12, 92) rfl rfl)) (F.2.1 16002 126 rfl rfl) ?_
              refine x_iload (x := 20) rfl rfl ?_
              refine x_iload (x := 80) rfl rfl ?_
              refine y_iadd (v := 100) rfl (by decide) ?_
              refine x_iconst (v := 0) rfl ki_0 ?_
              refine y_iast (N := 50660) 100 rfl (F.1 126 (100, 50660) rfl rfl) rfl (jinb_of (by decide)) (by decide) ?_
              refine x_iinc (x := 80) (v := 81) (ls' := [(9, .int 81), (8, .int 20), (7, .int 0), (6, .int 1), (0, .ref 125), (1, .int a1), (2, .int a2), (3, .int a3), (4, .int a4), (5, .int a5)]) rfl rfl (by decide) rfl rfl ?_
              refine x_goto (tgt := 117) rfl rfl ?_
              refine x_iload (x := 81) rfl rfl ?_
              refine x_bipush (v := 90) rfl kb_90 ?_
              refine x_icge (tgt := 141) rfl rfl (br_f (by decide) ?_)
              refine x_aloadn (x := 125) rfl rfl ?_
              refine x_getR (b := 126) 12 2 rfl f_12_8 rfl (congrArg Prod.fst (F.1 125 (12, 92) rfl rfl)) (F.2.1 16002 126 rfl rfl) ?_
              refine x_iload (x := 20) rfl rfl ?_
              refine x_iload (x := 81) rfl rfl ?_
              refine y_iadd (v := 101) rfl (by decide) ?_
              refine x_iconst (v := 0) rfl ki_0 ?_
              refine y_iast (N := 50660) 101 rfl (F.1 126 (100, 50660) rfl rfl) rfl (jinb_of (by decide)) (by decide) ?_
              refine x_iinc (x := 81) (v := 82) (ls' := [(9, .int 82), (8, .int 20), (7, .int 0), (6, .int 1), (0, .ref 125), (1, .int a1), (2, .int a2), (3, .int a3), (4, .int a4), (5, .int a5)]) rfl rfl (by decide) rfl rfl ?_
              refine x_goto (tgt := 117) rfl rfl ?_
              refine x_iload (x := 82) rfl rfl ?_
              refine x_bipush (v := 90) rfl kb_90 ?_
              refine x_icge (tgt := 141) rfl rfl (br_f (by decide) ?_)
              refine x_aloadn (x := 125) rfl rfl ?_
              refine x_getR (b := 126) 12 2 rfl f_12_8 rfl (congrArg Prod.fst (F.1 125 (12, 92) rfl rfl)) (F.2.1 16002 126 rfl rfl) ?_
              refine x_iload (x := 20) rfl rfl ?_
              refine x_iload (x := 82) rfl rfl ?_
              refine y_iadd (v := 102) rfl (by decide) ?_
              refine x_iconst (v := 0) rfl ki_0 ?_
              refine y_iast (N := 50660) 102 rfl (F.1 126 (100, 50660) rfl rfl) rfl (jinb_of (by decide)) (by decide) ?_
              refine x_iinc (x := 82) (v := 83) (ls' := [(9, .int 83), (8, .int 20), (7, .int 0), (6, .int 1), (0, .ref 125), (1, .int a1), (2, .int a2), (3, .int a3), (4, .int a4), (5, .int a5)]) rfl rfl (by decide) rfl rfl ?_
              refine x_goto (tgt := 117) rfl rfl ?_
              refine x_iload (x := 83) rfl rfl ?_
              refine x_bipush (v := 90) rfl kb_90 ?_
              refine x_icge (tgt := 141) rfl rfl (br_f (by decide) ?_)
              refine x_aloadn (x := 125) rfl rfl ?_
              refine x_getR (b := 126) 12 2 rfl f_12_8 rfl (congrArg Prod.fst (F.1 125 (12, 92) rfl rfl)) (F.2.1 16002 126 rfl rfl) ?_
              refine x_iload (x := 20) rfl rfl ?_
              refine x_iload (x := 83) rfl rfl ?_
              refine y_iadd (v := 103) rfl (by decide) ?_
              refine x_iconst (v := 0) rfl ki_0 ?_
              refine y_iast (N := 50660) 103 rfl (F.1 126 (100, 50660) rfl rfl) rfl (jinb_of (by decide)) (by decide) ?_
              refine x_iinc (x := 83) (v := 84) (ls' := [(9, .int 84), (8, .int 20), (7, .int 0), (6, .int 1), (0, .ref 125), (1, .int a1), (2, .int a2), (3, .int a3), (4, .int a4), (5, .int a5)]) rfl rfl (by decide) rfl rfl ?_
              refine x_goto (tgt := 117) rfl rfl ?_
              refine x_iload (x := 84) rfl rfl ?_
              refine x_bipush (v := 90) rfl kb_90 ?_
              refine x_icge (tgt := 141) rfl rfl (br_f (by decide) ?_)
              refine x_aloadn (x := 125) rfl rfl ?_
              refine x_getR (b := 126) 12 2 rfl f_12_8 rfl (congrArg Prod.fst (F.1 125 (12, 92) rfl rfl)) (F.2.1 16002 126 rfl rfl) ?_
              refine x_iload (x := 20) rfl rfl ?_
              refine x_iload (x := 84) rfl rfl ?_
              refine y_iadd (v := 104) rfl (by decide) ?_
              refine x_iconst (v := 0) rfl ki_0 ?_
              refine y_iast (N := 50660) 104 rfl (F.1 126 (100, 50660) rfl rfl) rfl (jinb_of (by decide)) (by decide) ?_
              refine x_iinc (x := 84) (v := 85) (ls' := [(9, .int 85), (8, .int 20), (7, .int 0), (6, .int 1), (0, .ref 125), (1, .int a1), (2, .int a2), (3, .int a3), (4, .int a4), (5, .int a5)]) rfl rfl (by decide) rfl rfl ?_
              refine x_goto (tgt := 117) rfl rfl ?_
              refine x_iload (x := 85) rfl rfl ?_
              refine x_bipush (v := 90) rfl kb_90 ?_
              refine x_icge (tgt := 141) rfl rfl (br_f (by decide) ?_)
              refine x_aloadn (x := 125) rfl rfl ?_
              refine x_getR (b := 126) 12 2 rfl f_12_8 rfl (congrArg Prod.fst (F.1 125 (12, 92) rfl rfl)) (F.2.1 16002 126 rfl rfl) ?_
              refine x_iload (x := 20) rfl rfl ?_
              refine x_iload (x := 85) rfl rfl ?_
              refine y_iadd (v := 105) rfl (by decide) ?_
              refine x_iconst (v := 0) rfl ki_0 ?_
              refine y_iast (N := 50660) 105 rfl (F.1 126 (100, 50660) rfl rfl) rfl (jinb_of (by decide)) (by decide) ?_
              refine x_iinc (x := 85) (v := 86) (ls' := [(9, .int 86), (8, .int 20), (7, .int 0), (6, .int 1), (0, .ref 125), (1, .int a1), (2, .int a2), (3, .int a3), (4, .int a4), (5, .int a5)]) rfl rfl (by decide) rfl rfl ?_
              refine x_goto (tgt := 117) rfl rfl ?_
              refine x_iload (x := 86) rfl rfl ?_
              refine x_bipush (v := 90) rfl kb_90 ?_
              refine x_icge (tgt := 141) rfl rfl (br_f (by decide) ?_)
              refine x_aloadn (x := 125) rfl rfl ?_
              refine x_getR (b := 126) 12 2 rfl f_12_8 rfl (congrArg Prod.fst (F.1 125 (12, 92) rfl rfl)) (F.2.1 16002 126 rfl rfl) ?_
              refine x_iload (x := 20) rfl rfl ?_
              refine x_iload (x := 86) rfl rfl ?_
              refine y_iadd (v := 106) rfl (by decide) ?_
              refine x_iconst (v := 0) rfl ki_0 ?_
              refine y_iast (N := 50660) 106 rfl (F.1 126 (100, 50660) rfl rfl) rfl (jinb_of (by decide)) (by decide) ?_
              refine x_iinc (x := 86) (v := 87) (ls' := [(9, .int 87), (8, .int 20), (7, .int 0), (6, .int 1), (0, .ref 125), (1, .int a1), (2, .int a2), (3, .int a3), (4, .int a4), (5, .int a5)]) rfl rfl (by decide) rfl rfl ?_
              refine x_goto (tgt := 117) rfl rfl ?_
              refine x_iload (x := 87) rfl rfl ?_
              refine x_bipush (v := 90) rfl kb_90 ?_
              refine x_icge (tgt := 141) rfl rfl (br_f (by decide) ?_)
              refine x_aloadn (x := 125) rfl rfl ?_
              refine x_getR (b := 126) 12 2 rfl f_12_8 rfl (congrArg Prod.fst (F.1 125 (12, 92) rfl rfl)) (F.2.1 16002 126 rfl rfl) ?_
              refine x_iload (x := 20) rfl rfl ?_
              refine x_iload (x := 87) rfl rfl ?_
              refine y_iadd (v := 107) rfl (by decide) ?_
              refine x_iconst (v := 0) rfl ki_0 ?_
              refine y_iast (N := 50660) 107 rfl (F.1 126 (100, 50660) rfl rfl) rfl (jinb_of (by decide)) (by decide) ?_
              refine x_iinc (x := 87) (v := 88) (ls' := [(9, .int 88), (8, .int 20), (7, .int 0), (6, .int 1), (0, .ref 125), (1, .int a1), (2, .int a2), (3, .int a3), (4, .int a4), (5, .int a5)]) rfl rfl (by decide) rfl rfl ?_
              refine x_goto (tgt := 117) rfl rfl ?_
              refine x_iload (x := 88) rfl rfl ?_
              refine x_bipush (v := 90) rfl kb_90 ?_
              refine x_icge (tgt := 141) rfl rfl (br_f (by decide) ?_)
              refine x_aloadn (x := 125) rfl rfl ?_
              refine x_getR (b := 126) 12 2 rfl f_12_8 rfl (congrArg Prod.fst (F.1 125 (12, 92) rfl rfl)) (F.2.1 16002 126 rfl rfl) ?_
              refine x_iload (x := 20) rfl rfl ?_
              refine x_iload (x := 88) rfl rfl ?_
              refine y_iadd (v := 108) rfl (by decide) ?_
              refine x_iconst (v := 0) rfl ki_0 ?_
              refine y_iast (N := 50660) 108 rfl (F.1 126 (100, 50660) rfl rfl) rfl (jinb_of (by decide)) (by decide) ?_
              refine x_iinc (x := 88) (v := 89) (ls' := [(9, .int 89), (8, .int 20), (7, .int 0), (6, .int 1), (0, .ref 125), (1, .int a1), (2, .int a2), (3, .int a3), (4, .int a4), (5, .int a5)]) rfl rfl (by decide) rfl rfl ?_
              refine x_goto (tgt := 117) rfl rfl ?_
              refine x_iload (x := 89) rfl rfl ?_
              refine x_bipush (v := 90) rfl kb_90 ?_
              refine x_icge (tgt := 141) rfl rfl (br_f (by decide) ?_)
              refine x_aloadn (x := 125) rfl rfl ?_
              refine x_getR (b := 126) 12 2 rfl f_12_8 rfl (congrArg Prod.fst (F.1 125 (12, 92) rfl rfl)) (F.2.1 16002 126 rfl rfl) ?_
              refine x_iload (x := 20) rfl rfl ?_
              refine x_iload (x := 89) rfl rfl ?_
              refine y_iadd (v := 109) rfl (by decide) ?_
              refine x_iconst (v := 0) rfl ki_0 ?_
              refine y_iast (N := 50660) 109 rfl (F.1 126 (100, 50660) rfl rfl) rfl (jinb_of (by decide)) (by decide) ?_
              refine x_iinc (x := 89) (v := 90) (ls' := [(9, .int 90), (8, .int 20), (7, .int 0), (6, .int 1), (0, .ref 125), (1, .int a1), (2, .int a2), (3, .int a3), (4, .int a4), (5, .int a5)]) rfl rfl (by decide) rfl rfl ?_
              refine x_goto (tgt := 117) rfl rfl ?_
              refine x_iload (x := 90) rfl rfl ?_
              refine x_bipush (v := 90) rfl kb_90 ?_
              refine x_icge (tgt := 141) rfl rfl (br_t (by decide) ?_)
              refine x_aloadn (x := 125) rfl rfl ?_
              refine x_inv (N := m_X12_begin) (As := []) (b := 125) (st := []) (d' := 99) (mc := 0) (ms := 0) (host := "") 12 rfl t_X12_begin ⟨Or.inl q_12_280, i_X12_begin.1, i_X12_begin.2⟩ ⟨by decide, rfl⟩ (congrArg Prod.fst (F.1 125 (12, 92) rfl rfl)) rfl (by decide) rfl rfl ⟨by decide, by decide⟩ (jC.of rfl k_X12_begin rfl ?_)
              show jX m_X12_begin 99 0 0 0 [(0, .ref 125)] [] _ 0 0 _
              refine x_aloadn (x := 125) rfl rfl ?_
              refine x_iconst (v := 0) rfl ki_0 ?_
              refine x_putI 12 10 rfl f_12_211 rfl (jfin_no TX12 RX12 92 rfl rfl) (congrArg Prod.fst (F.1 125 (12, 92) rfl rfl)) rfl ?_
              refine x_aloadn (x := 125) rfl rfl ?_
              refine x_iconst (v := 0) rfl ki_0 ?_
              refine x_putZ 12 14 rfl f_12_214 rfl (jfin_no TX12 RX12 92 rfl rfl) (congrArg Prod.fst (F.1 125 (12, 92) rfl rfl)) rfl (by decide) ?_
              refine x_aloadn (x := 125) rfl rfl ?_
              refine x_iconst (v := (-1)) rfl ki_m1 ?_
              refine x_putI 12 13 rfl f_12_32 rfl (jfin_no TX12 RX12 92 rfl rfl) (congrArg Prod.fst (F.1 125 (12, 92) rfl rfl)) rfl ?_
              refine x_aloadn (x := 125) rfl rfl ?_
              refine x_inv (N := m_X12_next) (As := []) (b := 125) (st := []) (d' := 98) (mc := 0) (ms := 0) (host := "") 12 rfl t_X12_next ⟨Or.inl q_12_218, i_X12_next.1, i_X12_next.2⟩ ⟨by decide, rfl⟩ (congrArg Prod.fst (F.1 125 (12, 92) rfl rfl)) rfl (by decide) rfl rfl ⟨by decide, by decide⟩ (jC.of rfl k_X12_next rfl ?_)
              show jX m_X12_next 98 0 0 0 [(0, .ref 125)] [] _ 0 0 _
              refine x_aloadn (x := 125) rfl rfl ?_
              refine x_aloadn (x := 125) rfl rfl ?_
              refine y_getI (v := 0) 12 10 rfl f_12_211 rfl (congrArg Prod.fst (F.1 125 (12, 92) rfl rfl)) rfl ?_
              refine x_putI 12 9 rfl f_12_221 rfl (jfin_no TX12 RX12 92 rfl rfl) (congrArg Prod.fst (F.1 125 (12, 92) rfl rfl)) rfl ?_
              refine x_aloadn (x := 125) rfl rfl ?_
              refine y_getI (v := 0) 12 9 rfl f_12_221 rfl (congrArg Prod.fst (F.1 125 (12, 92) rfl rfl)) rfl ?_
              refine x_aloadn (x := 125) rfl rfl ?_
              refine y_getI (v := 0) 12 8 rfl f_12_201 rfl (congrArg Prod.fst (F.1 125 (12, 92) rfl rfl)) (F.2.2.1 16008 0 rfl rfl) ?_
              refine x_icge (tgt := 46) rfl rfl (br_t (by decide) ?_)
              refine x_aloadn (x := 125) rfl rfl ?_
              refine x_aloadn (x := 125) rfl rfl ?_
              refine y_getI (v := 0) 12 9 rfl f_12_221 rfl (congrArg Prod.fst (F.1 125 (12, 92) rfl rfl)) rfl ?_
              refine x_putI 12 10 rfl f_12_211 rfl (jfin_no TX12 RX12 92 rfl rfl) (congrArg Prod.fst (F.1 125 (12, 92) rfl rfl)) rfl ?_
              refine x_aloadn (x := 125) rfl rfl ?_
              refine x_lconst (v := 0) rfl kl_0 ?_
              refine x_putL 12 12 rfl f_12_224 rfl (jfin_no TX12 RX12 92 rfl rfl) (congrArg Prod.fst (F.1 125 (12, 92) rfl rfl)) rfl ?_
              refine x_aloadn (x := 125) rfl rfl ?_
              refine x_aloadn (x := 125) rfl rfl ?_
              refine y_getI (v := 0) 12 9 rfl f_12_221 rfl (congrArg Prod.fst (F.1 125 (12, 92) rfl rfl)) rfl ?_
              refine x_aloadn (x := 125) rfl rfl ?_
              refine y_getI (v := 0) 12 8 rfl f_12_201 rfl (congrArg Prod.fst (F.1 125 (12, 92) rfl rfl)) (F.2.2.1 16008 0 rfl rfl) ?_
              refine x_icne (tgt := 75) rfl rfl (bn_f (by decide) ?_)
              refine x_iconst (v := 0) rfl ki_0 ?_
              refine x_goto (tgt := 114) rfl rfl ?_
              refine x_putI 12 11 rfl f_12_235 rfl (jfin_no TX12 RX12 92 rfl rfl) (congrArg Prod.fst (F.1 125 (12, 92) rfl rfl)) rfl ?_
              refine x_aloadn (x := 125) rfl rfl ?_
              refine y_getI (v := 0) 12 11 rfl f_12_235 rfl (congrArg Prod.fst (F.1 125 (12, 92) rfl rfl)) rfl ?_
              refine x_iconst (v := 3) rfl ki_3 ?_
              refine x_icne (tgt := 149) rfl rfl (bn_t (by decide) ?_)
              refine x_aloadn (x := 125) rfl rfl ?_
              refine y_getI (v := 0) 12 11 rfl f_12_235 rfl (congrArg Prod.fst (F.1 125 (12, 92) rfl rfl)) rfl ?_
              refine x_iconst (v := 1) rfl ki_1 ?_
              refine x_icne (tgt := 243) rfl rfl (bn_t (by decide) ?_)
              refine x_aloadn (x := 125) rfl rfl ?_
              refine y_getI (v := 0) 12 11 rfl f_12_235 rfl (congrArg Prod.fst (F.1 125 (12, 92) rfl rfl)) rfl ?_
              refine x_iconst (v := 2) rfl ki_2 ?_
              refine x_icne (tgt := 335) rfl rfl (bn_t (by decide) ?_)
              refine x_vret rfl rfl ?_
              show jX m_X12_begin 99 0 0 19 [(0, .ref 125)] [] _ 0 0 _
              refine x_vret rfl rfl ?_
              show jX m_X12_line 100 0 0 145 [(9, .int 90), (8, .int 20), (7, .int 0), (6, .int 1), (0, .ref 125), (1, .int a1), (2, .int a2), (3, .int a3), (4, .int a4), (5, .int a5)] [] _ 0 0 _
              refine x_iconst (v := 0) rfl ki_0 ?_
              refine x_istore (ls' := [(9, .int 0), (8, .int 20), (7, .int 0), (6, .int 1), (0, .ref 125), (1, .int a1), (2, .int a2), (3, .int a3), (4, .int a4), (5, .int a5)]) rfl rfl rfl ?_
              refine x_aloadn (x := 125) rfl rfl ?_
              refine y_getI (v := 0) 12 11 rfl f_12_235 rfl (congrArg Prod.fst (F.1 125 (12, 92) rfl rfl)) rfl ?_
              refine x_ifeq (tgt := 168) rfl rfl (br_t (by decide) ?_)
              refine x_iconst (v := 0) rfl ki_0 ?_
              refine x_istore (ls' := [(10, .int 0), (9, .int 0), (8, .int 20), (7, .int 0), (6, .int 1), (0, .ref 125), (1, .int a1), (2, .int a2), (3, .int a3), (4, .int a4), (5, .int a5)]) rfl rfl rfl ?_
              refine x_iload (x := 0) rfl rfl ?_
              refine x_ifeq (tgt := 250) rfl rfl (br_t (by decide) ?_)
              refine x_aloadn (x := 125) rfl rfl ?_
              refine y_getI (v := 0) 12 14 rfl f_12_214 rfl (congrArg Prod.fst (F.1 125 (12, 92) rfl rfl)) rfl ?_
              refine x_ifne (tgt := 268) rfl rfl (bn_f (by decide) ?_)
              refine x_aloadn (x := 125) rfl rfl ?_
              refine y_getI (v := 0) 12 11 rfl f_12_235 rfl (congrArg Prod.fst (F.1 125 (12, 92) rfl rfl)) rfl ?_
              refine x_ifeq (tgt := 268) rfl rfl (br_t (by decide) ?_)
              refine x_iconst (v := 0) rfl ki_0 ?_
              refine x_istore (ls' := [(11, .int 0), (10, .int 0), (9, .int 0), (8, .int 20), (7, .int 0), (6, .int 1), (0, .ref 125), (1, .int a1), (2, .int a2), (3, .int a3), (4, .int a4), (5, .int a5)]) rfl rfl rfl ?_
              refine x_iload (x := 0) rfl rfl ?_
              refine x_ifeq (tgt := 305) rfl rfl (br_t (by decide) ?_)
              refine x_aloadn (x := 125) rfl rfl ?_
              refine x_iconst (v := 0) rfl ki_0 ?_
              refine x_putI 12 8 rfl f_12_201 rfl (jfin_no TX12 RX12 92 rfl rfl) (congrArg Prod.fst (F.1 125 (12, 92) rfl rfl)) rfl ?_
              refine x_aloadn (x := 125) rfl rfl ?_
              refine y_getI (v := 0) 12 14 rfl f_12_214 rfl (congrArg Prod.fst (F.1 125 (12, 92) rfl rfl)) rfl ?_
              refine x_ifeq (tgt := 324) rfl rfl (br_t (by decide) ?_)
              refine x_aloadn (x := 125) rfl rfl ?_
              refine x_getR (b := 126) 12 2 rfl f_12_8 rfl (congrArg Prod.fst (F.1 125 (12, 92) rfl rfl)) (F.2.1 16002 126 rfl rfl) ?_
              refine x_iload (x := 20) rfl rfl ?_
              refine x_iloadn (x := a1) rfl rfl ?_
              refine y_iast (N := 50660) 20 rfl (F.1 126 (100, 50660) rfl rfl) rfl (jinb_of (by decide)) (by decide) ?_
              refine x_aloadn (x := 125) rfl rfl ?_
              refine x_getR (b := 126) 12 2 rfl f_12_8 rfl (congrArg Prod.fst (F.1 125 (12, 92) rfl rfl)) (F.2.1 16002 126 rfl rfl) ?_
              refine x_iload (x := 20) rfl rfl ?_
              refine x_iconst (v := 1) rfl ki_1 ?_
              refine y_iadd (v := 21) rfl (by decide) ?_
              refine x_iloadn (x := a2) rfl rfl ?_
              refine y_iast (N := 50660) 21 rfl (F.1 126 (100, 50660) rfl rfl) rfl (jinb_of (by decide)) (by decide) ?_
              refine x_aloadn (x := 125) rfl rfl ?_
              refine x_getR (b := 126) 12 2 rfl f_12_8 rfl (congrArg Prod.fst (F.1 125 (12, 92) rfl rfl)) (F.2.1 16002 126 rfl rfl) ?_
              refine x_iload (x := 20) rfl rfl ?_
              refine x_iconst (v := 2) rfl ki_2 ?_
              refine y_iadd (v := 22) rfl (by decide) ?_
              refine x_iloadn (x := a3) rfl rfl ?_
              refine y_iast (N := 50660) 22 rfl (F.1 126 (100, 50660) rfl rfl) rfl (jinb_of (by decide)) (by decide) ?_
              refine x_aloadn (x := 125) rfl rfl ?_
              refine x_getR (b := 126) 12 2 rfl f_12_8 rfl (congrArg Prod.fst (F.1 125 (12, 92) rfl rfl)) (F.2.1 16002 126 rfl rfl) ?_
              refine x_iload (x := 20) rfl rfl ?_
              refine x_iconst (v := 3) rfl ki_3 ?_
              refine y_iadd (v := 23) rfl (by decide) ?_
              refine x_iload (x := a4) rfl rfl ?_
              refine y_iast (N := 50660) 23 rfl (F.1 126 (100, 50660) rfl rfl) rfl (jinb_of (by decide)) (by decide) ?_
              refine x_aloadn (x := 125) rfl rfl ?_
              refine x_getR (b := 126) 12 2 rfl f_12_8 rfl (congrArg Prod.fst (F.1 125 (12, 92) rfl rfl)) (F.2.1 16002 126 rfl rfl) ?_
              refine x_iload (x := 20) rfl rfl ?_
              refine x_iconst (v := 4) rfl ki_4 ?_
              refine y_iadd (v := 24) rfl (by decide) ?_
              refine x_iload (x := a5) rfl rfl ?_
              refine y_iast (N := 50660) 24 rfl (F.1 126 (100, 50660) rfl rfl) rfl (jinb_of (by decide)) (by decide) ?_
              refine x_aloadn (x := 125) rfl rfl ?_
              refine x_getR (b := 126) 12 2 rfl f_12_8 rfl (congrArg Prod.fst (F.1 125 (12, 92) rfl rfl)) (F.2.1 16002 126 rfl rfl) ?_
              refine x_iload (x := 20) rfl rfl ?_
              refine x_iconst (v := 5) rfl ki_5 ?_
              refine y_iadd (v := 25) rfl (by decide) ?_
              refine x_iload (x := 0) rfl rfl ?_
              refine x_ifeq (tgt := 391) rfl rfl (br_t (by decide) ?_)
              refine x_iconst (v := 1) rfl ki_1 ?_
              refine y_iast (N := 50660) 25 rfl (F.1 126 (100, 50660) rfl rfl) rfl (jinb_of (by decide)) (by decide) ?_
              refine x_aloadn (x := 125) rfl rfl ?_
              refine x_getR (b := 126) 12 2 rfl f_12_8 rfl (congrArg Prod.fst (F.1 125 (12, 92) rfl rfl)) (F.2.1 16002 126 rfl rfl) ?_
              refine x_iconst (v := 0) rfl ki_0 ?_
              refine x_dup2 rfl rfl rfl ?_
              refine y_iald (v := 0) (N := 50660) 0 rfl (F.1 126 (100, 50660) rfl rfl) (jinb_of (by decide)) (by decide) (F.2.2.2.1 126 rfl rfl 0).1 ?_
              refine x_iconst (v := 1) rfl ki_1 ?_
              refine y_iadd (v := 1) rfl (by decide) ?_
              refine y_iast (N := 50660) 0 rfl (F.1 126 (100, 50660) rfl rfl) rfl (jinb_of (by decide)) (by decide) ?_
              refine x_aloadn (x := 125) rfl rfl ?_
              refine x_iconst (v := 0) rfl ki_0 ?_
              refine x_iload (x := 0) rfl rfl ?_
              refine x_inv (N := m_X12_thing) (As := [.int 0, .int 0]) (b := 125) (st := []) (d' := 99) (mc := 0) (ms := 0) (host := "") 12 rfl t_X12_thing ⟨Or.inl q_12_289, i_X12_thing.1, i_X12_thing.2⟩ ⟨by decide, rfl⟩ (congrArg Prod.fst (F.1 125 (12, 92) rfl rfl)) rfl (by decide) rfl rfl ⟨by decide, by decide⟩ (jC.of rfl k_X12_thing rfl ?_)
              show jX m_X12_thing 99 0 0 0 [(0, .ref 125), (1, .int 0), (2, .int 0)] [] _ 0 0 _
              refine x_ldc (v := 49920) rfl z_12_194 ?_
              refine x_iconst (v := 2) rfl ki_2 ?_
              refine x_aloadn (x := 125) rfl rfl ?_
              refine x_getR (b := 126) 12 2 rfl f_12_8 rfl (congrArg Prod.fst (F.1 125 (12, 92) rfl rfl)) (F.2.1 16002 126 rfl rfl) ?_
              refine x_bipush (v := 16) rfl kb_16 ?_
              refine y_iald (v := 0) (N := 50660) 16 rfl (F.1 126 (100, 50660) rfl rfl) (jinb_of (by decide)) (by decide) (F.2.2.2.1 126 rfl rfl 16).1 ?_
              refine y_imul (v := 0) rfl (by decide) ?_
              refine y_iadd (v := 49920) rfl (by decide) ?_
              refine x_istoren (ls' := [(3, .int 49920), (0, .ref 125), (1, .int 0), (2, .int 0)]) rfl rfl rfl ?_
              refine x_aloadn (x := 125) rfl rfl ?_
              refine x_getR (b := 126) 12 2 rfl f_12_8 rfl (congrArg Prod.fst (F.1 125 (12, 92) rfl rfl)) (F.2.1 16002 126 rfl rfl) ?_
              refine x_iloadn (x := 49920) rfl rfl ?_
              refine x_iloadn (x := 0) rfl rfl ?_
              refine y_iast (N := 50660) 49920 rfl (F.1 126 (100, 50660) rfl rfl) rfl (jinb_of (by decide)) (by decide) ?_
              refine x_aloadn (x := 125) rfl rfl ?_
              refine x_getR (b := 126) 12 2 rfl f_12_8 rfl (congrArg Prod.fst (F.1 125 (12, 92) rfl rfl)) (F.2.1 16002 126 rfl rfl) ?_
              refine x_iloadn (x := 49920) rfl rfl ?_
              refine x_iconst (v := 1) rfl ki_1 ?_
              refine y_iadd (v := 49921) rfl (by decide) ?_
              refine x_iloadn (x := 0) rfl rfl ?_
              refine y_iast (N := 50660) 49921 rfl (F.1 126 (100, 50660) rfl rfl) rfl (jinb_of (by decide)) (by decide) ?_
              refine x_aloadn (x := 125) rfl rfl ?_
              refine x_getR (b := 126) 12 2 rfl f_12_8 rfl (congrArg Prod.fst (F.1 125 (12, 92) rfl rfl)) (F.2.1 16002 126 rfl rfl) ?_
              refine x_bipush (v := 16) rfl kb_16 ?_
              refine x_dup2 rfl rfl rfl ?_
              refine y_iald (v := 0) (N := 50660) 16 rfl (F.1 126 (100, 50660) rfl rfl) (jinb_of (by decide)) (by decide) (F.2.2.2.1 126 rfl rfl 16).1 ?_
              refine x_iconst (v := 1) rfl ki_1 ?_
              refine y_iadd (v := 1) rfl (by decide) ?_
              refine y_iast (N := 50660) 16 rfl (F.1 126 (100, 50660) rfl rfl) rfl (jinb_of (by decide)) (by decide) ?_
              refine x_vret rfl rfl ?_
              show jX m_X12_line 100 0 0 410 [(11, .int 0), (10, .int 0), (9, .int 0), (8, .int 20), (7, .int 0), (6, .int 1), (0, .ref 125), (1, .int a1), (2, .int a2), (3, .int a3), (4, .int a4), (5, .int a5)] [] _ 0 0 _
              refine x_aloadn (x := 125) rfl rfl ?_
              refine x_iload (x := 0) rfl rfl ?_
              refine x_inv (N := m_X12_told) (As := [.int 0]) (b := 125) (st := []) (d' := 99) (mc := 0) (ms := 0) (host := "") 12 rfl t_X12_told ⟨Or.inl q_12_197, i_X12_told.1, i_X12_told.2⟩ ⟨by decide, rfl⟩ (congrArg Prod.fst (F.1 125 (12, 92) rfl rfl)) rfl (by decide) rfl rfl ⟨by decide, by decide⟩ (jC.of rfl k_X12_told rfl ?_)
              show jX m_X12_told 99 0 0 0 [(0, .ref 125), (1, .int 0)] [] _ 0 0 _
              refine x_aloadn (x := 125) rfl rfl ?_
              refine x_iloadn (x := 0) rfl rfl ?_
              refine x_ifge (tgt := 9) rfl rfl (br_t (by decide) ?_)
              refine x_iconst (v := 0) rfl ki_0 ?_
              refine x_putI 12 1 rfl f_12_183 rfl (jfin_no TX12 RX12 92 rfl rfl) (congrArg Prod.fst (F.1 125 (12, 92) rfl rfl)) rfl ?_
              refine x_iloadn (x := 0) rfl rfl ?_
              refine x_iret rfl rfl ?_
              show jX m_X12_line 100 0 0 416 [(11, .int 0), (10, .int 0), (9, .int 0), (8, .int 20), (7, .int 0), (6, .int 1), (0, .ref 125), (1, .int a1), (2, .int a2), (3, .int a3), (4, .int a4), (5, .int a5)] [.int 0] _ 0 0 _
              refine x_iret rfl rfl ?_
              exact jqe (show sp_line a1 a2 a3 a4 a5 = 0 by unfold sp_line; (repeat' split) <;> first | rfl | (exfalso; omega)) (hQ _ (by repeat (first | exact O | refine jOl_si rfl ?_ | refine jOl_sl rfl ?_ | refine jOl_ci rfl ?_ | refine jOl_cl rfl ?_ | refine jOl_sr rfl ?_)))
          refine x_tableOut (tgt := 64) rfl (by omega) rfl ?_
          refine x_iloadn (x := a5) rfl rfl ?_
          refine x_iconst (v := (-1)) rfl ki_m1 ?_
          refine x_icne (tgt := 73) rfl rfl (ti_ne (show (a5 : Int32).toInt = a5.toInt from rfl) (show ((-1) : Int32).toInt = (-1) by decide) ⟨fun c13 => ?_, fun c13 => ?_⟩)
          ·
            refine x_iconst (v := 0) rfl ki_0 ?_
            refine x_zret rfl rfl (by first | decide | exact jp_01 _) ?_
            show jX m_X12_line 100 0 0 50 [(0, .ref 125), (1, .int a1), (2, .int a2), (3, .int a3), (4, .int a4), (5, .int a5)] [.int 0] _ 0 0 _
            refine x_ifeq (tgt := 57) rfl rfl (br_t (by decide) ?_)
            refine x_iconst (v := 0) rfl ki_0 ?_
            refine x_istore (ls' := [(6, .int 0), (0, .ref 125), (1, .int a1), (2, .int a2), (3, .int a3), (4, .int a4), (5, .int a5)]) rfl rfl rfl ?_
            refine x_iload (x := 0) rfl rfl ?_
            refine x_ifeq (tgt := 77) rfl rfl (br_t (by decide) ?_)
            refine x_aloadn (x := 125) rfl rfl ?_
            refine x_iconst (v := 0) rfl ki_0 ?_
            refine x_putI 12 8 rfl f_12_201 rfl (jfin_no TX12 RX12 92 rfl rfl) (congrArg Prod.fst (F.1 125 (12, 92) rfl rfl)) rfl ?_
            refine x_aloadn (x := 125) rfl rfl ?_
            refine x_iload (x := 0) rfl rfl ?_
            refine x_ifeq (tgt := 93) rfl rfl (br_t (by decide) ?_)
            refine x_iconst (v := (-1)) rfl ki_m1 ?_
            refine x_inv (N := m_X12_told) (As := [.int (-1)]) (b := 125) (st := []) (d' := 99) (mc := 0) (ms := 0) (host := "") 12 rfl t_X12_told ⟨Or.inl q_12_197, i_X12_told.1, i_X12_told.2⟩ ⟨by decide, rfl⟩ (congrArg Prod.fst (F.1 125 (12, 92) rfl rfl)) rfl (by decide) rfl rfl ⟨by decide, by decide⟩ (jC.of rfl k_X12_told rfl ?_)
            show jX m_X12_told 99 0 0 0 [(0, .ref 125), (1, .int (-1))] [] _ 0 0 _
            refine x_aloadn (x := 125) rfl rfl ?_
            refine x_iloadn (x := (-1)) rfl rfl ?_
            refine x_ifge (tgt := 9) rfl rfl (br_f (by decide) ?_)
            refine x_iloadn (x := (-1)) rfl rfl ?_
            refine x_goto (tgt := 10) rfl rfl ?_
            refine x_putI 12 1 rfl f_12_183 rfl (jfin_no TX12 RX12 92 rfl rfl) (congrArg Prod.fst (F.1 125 (12, 92) rfl rfl)) rfl ?_
            refine x_iloadn (x := (-1)) rfl rfl ?_
            refine x_iret rfl rfl ?_
            show jX m_X12_line 100 0 0 97 [(6, .int 0), (0, .ref 125), (1, .int a1), (2, .int a2), (3, .int a3), (4, .int a4), (5, .int a5)] [.int (-1)] _ 0 0 _
            refine x_iret rfl rfl ?_
            exact jqe (show sp_line a1 a2 a3 a4 a5 = (-1) by unfold sp_line; (repeat' split) <;> first | rfl | (exfalso; omega)) (hQ _ (by repeat (first | exact O | refine jOl_si rfl ?_ | refine jOl_sl rfl ?_ | refine jOl_ci rfl ?_ | refine jOl_cl rfl ?_ | refine jOl_sr rfl ?_)))
          ·
            refine x_iconst (v := 1) rfl ki_1 ?_
            refine x_goto (tgt := 74) rfl rfl ?_
            refine x_zret rfl rfl (by first | decide | exact jp_01 _) ?_
            show jX m_X12_line 100 0 0 50 [(0, .ref 125), (1, .int a1), (2, .int a2), (3, .int a3), (4, .int a4), (5, .int a5)] [.int 1] _ 0 0 _
            refine x_ifeq (tgt := 57) rfl rfl (br_f (by decide) ?_)
            refine x_iconst (v := 1) rfl ki_1 ?_
            refine x_goto (tgt := 58) rfl rfl ?_
            refine x_istore (ls' := [(6, .int 1), (0, .ref 125), (1, .int a1), (2, .int a2), (3, .int a3), (4, .int a4), (5, .int a5)]) rfl rfl rfl ?_
            refine x_iload (x := 1) rfl rfl ?_
            refine x_ifeq (tgt := 77) rfl rfl (br_f (by decide) ?_)
            refine x_aloadn (x := 125) rfl rfl ?_
            refine x_getR (b := 126) 12 2 rfl f_12_8 rfl (congrArg Prod.fst (F.1 125 (12, 92) rfl rfl)) (F.2.1 16002 126 rfl rfl) ?_
            refine x_iconst (v := 0) rfl ki_0 ?_
            refine y_iald (v := 0) (N := 50660) 0 rfl (F.1 126 (100, 50660) rfl rfl) (jinb_of (by decide)) (by decide) (F.2.2.2.1 126 rfl rfl 0).1 ?_
            refine x_sipush (v := 200) rfl ks_200 ?_
            refine x_icne (tgt := 98) rfl rfl (bn_t (by decide) ?_)
            refine x_aloadn (x := 125) rfl rfl ?_
            refine x_getR (b := 126) 12 2 rfl f_12_8 rfl (congrArg Prod.fst (F.1 125 (12, 92) rfl rfl)) (F.2.1 16002 126 rfl rfl) ?_
            refine x_iconst (v := 0) rfl ki_0 ?_
            refine y_iald (v := 0) (N := 50660) 0 rfl (F.1 126 (100, 50660) rfl rfl) (jinb_of (by decide)) (by decide) (F.2.2.2.1 126 rfl rfl 0).1 ?_
            refine x_istore (ls' := [(7, .int 0), (6, .int 1), (0, .ref 125), (1, .int a1), (2, .int a2), (3, .int a3), (4, .int a4), (5, .int a5)]) rfl rfl rfl ?_
            refine x_aloadn (x := 125) rfl rfl ?_
            refine x_iload (x := 0) rfl rfl ?_
            refine x_inv (N := m_X12_at) (As := [.int 0]) (b := 125) (st := []) (d' := 99) (mc := 0) (ms := 0) (host := "") 12 rfl t_X12_at ⟨Or.inl q_12_254, i_X12_at.1, i_X12_at.2⟩ ⟨by decide, rfl⟩ (congrArg Prod.fst (F.1 125 (12, 92) rfl rfl)) rfl (by decide) rfl rfl ⟨by decide, by decide⟩ (jC.of rfl k_X12_at rfl ?_)
            show jX m_X12_at 99 0 0 0 [(0, .ref 125), (1, .int 0)] [] _ 0 0 _
            refine x_bipush (v := 20) rfl kb_20 ?_
            refine x_bipush (v := 90) rfl kb_90 ?_
            refine x_iloadn (x := 0) rfl rfl ?_
            refine y_imul (v := 0) rfl (by decide) ?_
            refine y_iadd (v := 20) rfl (by decide) ?_
            refine x_iret rfl rfl ?_
            show jX m_X12_line 100 0 0 112 [(7, .int 0), (6, .int 1), (0, .ref 125), (1, .int a1), (2, .int a2), (3, .int a3), (4, .int a4), (5, .int a5)] [.int 20] _ 0 0 _
            refine x_istore (ls' := [(8, .int 20), (7, .int 0), (6, .int 1), (0, .ref 125), (1, .int a1), (2, .int a2), (3, .int a3), (4, .int a4), (5, .int a5)]) rfl rfl rfl ?_
            refine x_iconst (v := 0) rfl ki_0 ?_
            refine x_istore (ls' := [(9, .int 0), (8, .int 20), (7, .int 0), (6, .int 1), (0, .ref 125), (1, .int a1), (2, .int a2), (3, .int a3), (4, .int a4), (5, .int a5)]) rfl rfl rfl ?_
            refine x_iload (x := 0) rfl rfl ?_
            refine x_bipush (v := 90) rfl kb_90 ?_
            refine x_icge (tgt := 141) rfl rfl (br_f (by decide) ?_)
            refine x_aloadn (x := 125) rfl rfl ?_
            refine x_getR (b := 126) 12 2 rfl f_12_8 rfl (congrArg Prod.fst (F.1 125 (12, 92) rfl rfl)) (F.2.1 16002 126 rfl rfl) ?_
            refine x_iload (x := 20) rfl rfl ?_
            refine x_iload (x := 0) rfl rfl ?_
            refine y_iadd (v := 20) rfl (by decide) ?_
            refine x_iconst (v := 0) rfl ki_0 ?_
            refine y_iast (N := 50660) 20 rfl (F.1 126 (100, 50660) rfl rfl) rfl (jinb_of (by decide)) (by decide) ?_
            refine x_iinc (x := 0) (v := 1) (ls' := [(9, .int 1), (8, .int 20), (7, .int 0), (6, .int 1), (0, .ref 125), (1, .int a1), (2, .int a2), (3, .int a3), (4, .int a4), (5, .int a5)]) rfl rfl (by decide) rfl rfl ?_
            refine x_goto (tgt := 117) rfl rfl ?_
            refine x_iload (x := 1) rfl rfl ?_
            refine x_bipush (v := 90) rfl kb_90 ?_
            refine x_icge (tgt := 141) rfl rfl (br_f (by decide) ?_)
            refine x_aloadn (x := 125) rfl rfl ?_
            refine x_getR (b := 126) 12 2 rfl f_12_8 rfl (congrArg Prod.fst (F.1 125 (12, 92) rfl rfl)) (F.2.1 16002 126 rfl rfl) ?_
            refine x_iload (x := 20) rfl rfl ?_
            refine x_iload (x := 1) rfl rfl ?_
            refine y_iadd (v := 21) rfl (by decide) ?_
            refine x_iconst (v := 0) rfl ki_0 ?_
            refine y_iast (N := 50660) 21 rfl (F.1 126 (100, 50660) rfl rfl) rfl (jinb_of (by decide)) (by decide) ?_
            refine x_iinc (x := 1) (v := 2) (ls' := [(9, .int 2), (8, .int 20), (7, .int 0), (6, .int 1), (0, .ref 125), (1, .int a1), (2, .int a2), (3, .int a3), (4, .int a4), (5, .int a5)]) rfl rfl (by decide) rfl rfl ?_
            refine x_goto (tgt := 117) rfl rfl ?_
            refine x_iload (x := 2) rfl rfl ?_
            refine x_bipush (v := 90) rfl kb_90 ?_
            refine x_icge (tgt := 141) rfl rfl (br_f (by decide) ?_)
            refine x_aloadn (x := 125) rfl rfl ?_
            refine x_getR (b := 126) 12 2 rfl f_12_8 rfl (congrArg Prod.fst (F.1 125 (12, 92) rfl rfl)) (F.2.1 16002 126 rfl rfl) ?_
            refine x_iload (x := 20) rfl rfl ?_
            refine x_iload (x := 2) rfl rfl ?_
            refine y_iadd (v := 22) rfl (by decide) ?_
            refine x_iconst (v := 0) rfl ki_0 ?_
            refine y_iast (N := 50660) 22 rfl (F.1 126 (100, 50660) rfl rfl) rfl (jinb_of (by decide)) (by decide) ?_
            refine x_iinc (x := 2) (v := 3) (ls' := [(9, .int 3), (8, .int 20), (7, .int 0), (6, .int 1), (0, .ref 125), (1, .int a1), (2, .int a2), (3, .int a3), (4, .int a4), (5, .int a5)]) rfl rfl (by decide) rfl rfl ?_
            refine x_goto (tgt := 117) rfl rfl ?_
            refine x_iload (x := 3) rfl rfl ?_
            refine x_bipush (v := 90) rfl kb_90 ?_
            refine x_icge (tgt := 141) rfl rfl (br_f (by decide) ?_)
            refine x_aloadn (x := 125) rfl rfl ?_
            refine x_getR (b := 126) 12 2 rfl f_12_8 rfl (congrArg Prod.fst (F.1 125 (12, 92) rfl rfl)) (F.2.1 16002 126 rfl rfl) ?_
            refine x_iload (x := 20) rfl rfl ?_
            refine x_iload (x := 3) rfl rfl ?_
            refine y_iadd (v := 23) rfl (by decide) ?_
            refine x_iconst (v := 0) rfl ki_0 ?_
            refine y_iast (N := 50660) 23 rfl (F.1 126 (100, 50660) rfl rfl) rfl (jinb_of (by decide)) (by decide) ?_
            refine x_iinc (x := 3) (v := 4) (ls' := [(9, .int 4), (8, .int 20), (7, .int 0), (6, .int 1), (0, .ref 125), (1, .int a1), (2, .int a2), (3, .int a3), (4, .int a4), (5, .int a5)]) rfl rfl (by decide) rfl rfl ?_
            refine x_goto (tgt := 117) rfl rfl ?_
            refine x_iload (x := 4) rfl rfl ?_
            refine x_bipush (v := 90) rfl kb_90 ?_
            refine x_icge (tgt := 141) rfl rfl (br_f (by decide) ?_)
            refine x_aloadn (x := 125) rfl rfl ?_
            refine x_getR (b := 126) 12 2 rfl f_12_8 rfl (congrArg Prod.fst (F.1 125 (12, 92) rfl rfl)) (F.2.1 16002 126 rfl rfl) ?_
            refine x_iload (x := 20) rfl rfl ?_
            refine x_iload (x := 4) rfl rfl ?_
            refine y_iadd (v := 24) rfl (by decide) ?_
            refine x_iconst (v := 0) rfl ki_0 ?_
            refine y_iast (N := 50660) 24 rfl (F.1 126 (100, 50660) rfl rfl) rfl (jinb_of (by decide)) (by decide) ?_
            refine x_iinc (x := 4) (v := 5) (ls' := [(9, .int 5), (8, .int 20), (7, .int 0), (6, .int 1), (0, .ref 125), (1, .int a1), (2, .int a2), (3, .int a3), (4, .int a4), (5, .int a5)]) rfl rfl (by decide) rfl rfl ?_
            refine x_goto (tgt := 117) rfl rfl ?_
            refine x_iload (x := 5) rfl rfl ?_
            refine x_bipush (v := 90) rfl kb_90 ?_
            refine x_icge (tgt := 141) rfl rfl (br_f (by decide) ?_)
            refine x_aloadn (x := 125) rfl rfl ?_
            refine x_getR (b := 126) 12 2 rfl f_12_8 rfl (congrArg Prod.fst (F.1 125 (12, 92) rfl rfl)) (F.2.1 16002 126 rfl rfl) ?_
            refine x_iload (x := 20) rfl rfl ?_
            refine x_iload (x := 5) rfl rfl ?_
            refine y_iadd (v := 25) rfl (by decide) ?_
            refine x_iconst (v := 0) rfl ki_0 ?_
            refine y_iast (N := 50660) 25 rfl (F.1 126 (100, 50660) rfl rfl) rfl (jinb_of (by decide)) (by decide) ?_
            refine x_iinc (x := 5) (v := 6) (ls' := [(9, .int 6), (8, .int 20), (7, .int 0), (6, .int 1), (0, .ref 125), (1, .int a1), (2, .int a2), (3, .int a3), (4, .int a4), (5, .int a5)]) rfl rfl (by decide) rfl rfl ?_
            refine x_goto (tgt := 117) rfl rfl ?_
            refine x_iload (x := 6) rfl rfl ?_
            refine x_bipush (v := 90) rfl kb_90 ?_
            refine x_icge (tgt := 141) rfl rfl (br_f (by decide) ?_)
            refine x_aloadn (x := 125) rfl rfl ?_
            refine x_getR (b := 126) 12 2 rfl f_12_8 rfl (congrArg Prod.fst (F.1 125 (12, 92) rfl rfl)) (F.2.1 16002 126 rfl rfl) ?_
            refine x_iload (x := 20) rfl rfl ?_
            refine x_iload (x := 6) rfl rfl ?_
            refine y_iadd (v := 26) rfl (by decide) ?_
            refine x_iconst (v := 0) rfl ki_0 ?_
            refine y_iast (N := 50660) 26 rfl (F.1 126 (100, 50660) rfl rfl) rfl (jinb_of (by decide)) (by decide) ?_
            refine x_iinc (x := 6) (v := 7) (ls' := [(9, .int 7), (8, .int 20), (7, .int 0), (6, .int 1), (0, .ref 125), (1, .int a1), (2, .int a2), (3, .int a3), (4, .int a4), (5, .int a5)]) rfl rfl (by decide) rfl rfl ?_
            refine x_goto (tgt := 117) rfl rfl ?_
            refine x_iload (x := 7) rfl rfl ?_
            refine x_bipush (v := 90) rfl kb_90 ?_
            refine x_icge (tgt := 141) rfl rfl (br_f (by decide) ?_)
            refine x_aloadn (x := 125) rfl rfl ?_
            refine x_getR (b := 126) 12 2 rfl f_12_8 rfl (congrArg Prod.fst (F.1 125 (12, 92) rfl rfl)) (F.2.1 16002 126 rfl rfl) ?_
            refine x_iload (x := 20) rfl rfl ?_
            refine x_iload (x := 7) rfl rfl ?_
            refine y_iadd (v := 27) rfl (by decide) ?_
            refine x_iconst (v := 0) rfl ki_0 ?_
            refine y_iast (N := 50660) 27 rfl (F.1 126 (100, 50660) rfl rfl) rfl (jinb_of (by decide)) (by decide) ?_
            refine x_iinc (x := 7) (v := 8) (ls' := [(9, .int 8), (8, .int 20), (7, .int 0), (6, .int 1), (0, .ref 125), (1, .int a1), (2, .int a2), (3, .int a3), (4, .int a4), (5, .int a5)]) rfl rfl (by decide) rfl rfl ?_
            refine x_goto (tgt := 117) rfl rfl ?_
            refine x_iload (x := 8) rfl rfl ?_
            refine x_bipush (v := 90) rfl kb_90 ?_
            refine x_icge (tgt := 141) rfl rfl (br_f (by decide) ?_)
            refine x_aloadn (x := 125) rfl rfl ?_
            refine x_getR (b := 126) 12 2 rfl f_12_8 rfl (congrArg Prod.fst (F.1 125 (12, 92) rfl rfl)) (F.2.1 16002 126 rfl rfl) ?_
            refine x_iload (x := 20) rfl rfl ?_
            refine x_iload (x := 8) rfl rfl ?_
            refine y_iadd (v := 28) rfl (by decide) ?_
            refine x_iconst (v := 0) rfl ki_0 ?_
            refine y_iast (N := 50660) 28 rfl (F.1 126 (100, 50660) rfl rfl) rfl (jinb_of (by decide)) (by decide) ?_
            refine x_iinc (x := 8) (v := 9) (ls' := [(9, .int 9), (8, .int 20), (7, .int 0), (6, .int 1), (0, .ref 125), (1, .int a1), (2, .int a2), (3, .int a3), (4, .int a4), (5, .int a5)]) rfl rfl (by decide) rfl rfl ?_
            refine x_goto (tgt := 117) rfl rfl ?_
            refine x_iload (x := 9) rfl rfl ?_
            refine x_bipush (v := 90) rfl kb_90 ?_
            refine x_icge (tgt := 141) rfl rfl (br_f (by decide) ?_)
            refine x_aloadn (x := 125) rfl rfl ?_
            refine x_getR (b := 126) 12 2 rfl f_12_8 rfl (congrArg Prod.fst (F.1 125 (12, 92) rfl rfl)) (F.2.1 16002 126 rfl rfl) ?_
            refine x_iload (x := 20) rfl rfl ?_
            refine x_iload (x := 9) rfl rfl ?_
            refine y_iadd (v := 29) rfl (by decide) ?_
            refine x_iconst (v := 0) rfl ki_0 ?_
            refine y_iast (N := 50660) 29 rfl (F.1 126 (100, 50660) rfl rfl) rfl (jinb_of (by decide)) (by decide) ?_
            refine x_iinc (x := 9) (v := 10) (ls' := [(9, .int 10), (8, .int 20), (7, .int 0), (6, .int 1), (0, .ref 125), (1, .int a1), (2, .int a2), (3, .int a3), (4, .int a4), (5, .int a5)]) rfl rfl (by decide) rfl rfl ?_
            refine x_goto (tgt := 117) rfl rfl ?_
            refine x_iload (x := 10) rfl rfl ?_
            refine x_bipush (v := 90) rfl kb_90 ?_
            refine x_icge (tgt := 141) rfl rfl (br_f (by decide) ?_)
            refine x_aloadn (x := 125) rfl rfl ?_
            refine x_getR (b := 126) 12 2 rfl f_12_8 rfl (congrArg Prod.fst (F.1 125 (12, 92) rfl rfl)) (F.2.1 16002 126 rfl rfl) ?_
            refine x_iload (x := 20) rfl rfl ?_
            refine x_iload (x := 10) rfl rfl ?_
            refine y_iadd (v := 30) rfl (by decide) ?_
            refine x_iconst (v := 0) rfl ki_0 ?_
            refine y_iast (N := 50660) 30 rfl (F.1 126 (100, 50660) rfl rfl) rfl (jinb_of (by decide)) (by decide) ?_
            refine x_iinc (x := 10) (v := 11) (ls' := [(9, .int 11), (8, .int 20), (7, .int 0), (6, .int 1), (0, .ref 125), (1, .int a1), (2, .int a2), (3, .int a3), (4, .int a4), (5, .int a5)]) rfl rfl (by decide) rfl rfl ?_
            refine x_goto (tgt := 117) rfl rfl ?_
            refine x_iload (x := 11) rfl rfl ?_
            refine x_bipush (v := 90) rfl kb_90 ?_
            refine x_icge (tgt := 141) rfl rfl (br_f (by decide) ?_)
            refine x_aloadn (x := 125) rfl rfl ?_
            refine x_getR (b := 126) 12 2 rfl f_12_8 rfl (congrArg Prod.fst (F.1 125 (12, 92) rfl rfl)) (F.2.1 16002 126 rfl rfl) ?_
            refine x_iload (x := 20) rfl rfl ?_
            refine x_iload (x := 11) rfl rfl ?_
            refine y_iadd (v := 31) rfl (by decide) ?_
            refine x_iconst (v := 0) rfl ki_0 ?_
            refine y_iast (N := 50660) 31 rfl (F.1 126 (100, 50660) rfl rfl) rfl (jinb_of (by decide)) (by decide) ?_
            refine x_iinc (x := 11) (v := 12) (ls' := [(9, .int 12), (8, .int 20), (7, .int 0), (6, .int 1), (0, .ref 125), (1, .int a1), (2, .int a2), (3, .int a3), (4, .int a4), (5, .int a5)]) rfl rfl (by decide) rfl rfl ?_
            refine x_goto (tgt := 117) rfl rfl ?_
            refine x_iload (x := 12) rfl rfl ?_
            refine x_bipush (v := 90) rfl kb_90 ?_
            refine x_icge (tgt := 141) rfl rfl (br_f (by decide) ?_)
            refine x_aloadn (x := 125) rfl rfl ?_
            refine x_getR (b := 126) 12 2 rfl f_12_8 rfl (congrArg Prod.fst (F.1 125 (12, 92) rfl rfl)) (F.2.1 16002 126 rfl rfl) ?_
            refine x_iload (x := 20) rfl rfl ?_
            refine x_iload (x := 12) rfl rfl ?_
            refine y_iadd (v := 32) rfl (by decide) ?_
            refine x_iconst (v := 0) rfl ki_0 ?_
            refine y_iast (N := 50660) 32 rfl (F.1 126 (100, 50660) rfl rfl) rfl (jinb_of (by decide)) (by decide) ?_
            refine x_iinc (x := 12) (v := 13) (ls' := [(9, .int 13), (8, .int 20), (7, .int 0), (6, .int 1), (0, .ref 125), (1, .int a1), (2, .int a2), (3, .int a3), (4, .int a4), (5, .int a5)]) rfl rfl (by decide) rfl rfl ?_
            refine x_goto (tgt := 117) rfl rfl ?_
            refine x_iload (x := 13) rfl rfl ?_
            refine x_bipush (v := 90) rfl kb_90 ?_
            refine x_icge (tgt := 141) rfl rfl (br_f (by decide) ?_)
            refine x_aloadn (x := 125) rfl rfl ?_
            refine x_getR (b := 126) 12 2 rfl f_12_8 rfl (congrArg Prod.fst (F.1 125 (12, 92) rfl rfl)) (F.2.1 16002 126 rfl rfl) ?_
            refine x_iload (x := 20) rfl rfl ?_
            refine x_iload (x := 13) rfl rfl ?_
            refine y_iadd (v := 33) rfl (by decide) ?_
            refine x_iconst (v := 0) rfl ki_0 ?_
            refine y_iast (N := 50660) 33 rfl (F.1 126 (100, 50660) rfl rfl) rfl (jinb_of (by decide)) (by decide) ?_
            refine x_iinc (x := 13) (v := 14) (ls' := [(9, .int 14), (8, .int 20), (7, .int 0), (6, .int 1), (0, .ref 125), (1, .int a1), (2, .int a2), (3, .int a3), (4, .int a4), (5, .int a5)]) rfl rfl (by decide) rfl rfl ?_
            refine x_goto (tgt := 117) rfl rfl ?_
            refine x_iload (x := 14) rfl rfl ?_
            refine x_bipush (v := 90) rfl kb_90 ?_
            refine x_icge (tgt := 141) rfl rfl (br_f (by decide) ?_)
            refine x_aloadn (x := 125) rfl rfl ?_
            refine x_getR (b := 126) 12 2 rfl f_12_8 rfl (congrArg Prod.fst (F.1 125 (12, 92) rfl rfl)) (F.2.1 16002 126 rfl rfl) ?_
            refine x_iload (x := 20) rfl rfl ?_
            refine x_iload (x := 14) rfl rfl ?_
            refine y_iadd (v := 34) rfl (by decide) ?_
            refine x_iconst (v := 0) rfl ki_0 ?_
            refine y_iast (N := 50660) 34 rfl (F.1 126 (100, 50660) rfl rfl) rfl (jinb_of (by decide)) (by decide) ?_
            refine x_iinc (x := 14) (v := 15) (ls' := [(9, .int 15), (8, .int 20), (7, .int 0), (6, .int 1), (0, .ref 125), (1, .int a1), (2, .int a2), (3, .int a3), (4, .int a4), (5, .int a5)]) rfl rfl (by decide) rfl rfl ?_
            refine x_goto (tgt := 117) rfl rfl ?_
            refine x_iload (x := 15) rfl rfl ?_
            refine x_bipush (v := 90) rfl kb_90 ?_
            refine x_icge (tgt := 141) rfl rfl (br_f (by decide) ?_)
            refine x_aloadn (x := 125) rfl rfl ?_
            refine x_getR (b := 126) 12 2 rfl f_12_8 rfl (congrArg Prod.fst (F.1 125 (12, 92) rfl rfl)) (F.2.1 16002 126 rfl rfl) ?_
            refine x_iload (x := 20) rfl rfl ?_
            refine x_iload (x := 15) rfl rfl ?_
            refine y_iadd (v := 35) rfl (by decide) ?_
            refine x_iconst (v := 0) rfl ki_0 ?_
            refine y_iast (N := 50660) 35 rfl (F.1 126 (100, 50660) rfl rfl) rfl (jinb_of (by decide)) (by decide) ?_
            refine x_iinc (x := 15) (v := 16) (ls' := [(9, .int 16), (8, .int 20), (7, .int 0), (6, .int 1), (0, .ref 125), (1, .int a1), (2, .int a2), (3, .int a3), (4, .int a4), (5, .int a5)]) rfl rfl (by decide) rfl rfl ?_
            refine x_goto (tgt := 117) rfl rfl ?_
            refine x_iload (x := 16) rfl rfl ?_
            refine x_bipush (v := 90) rfl kb_90 ?_
            refine x_icge (tgt := 141) rfl rfl (br_f (by decide) ?_)
            refine x_aloadn (x := 125) rfl rfl ?_
            refine x_getR (b := 126) 12 2 rfl f_12_8 rfl (congrArg Prod.fst (F.1 125 (12, 92) rfl rfl)) (F.2.1 16002 126 rfl rfl) ?_
            refine x_iload (x := 20) rfl rfl ?_
            refine x_iload (x := 16) rfl rfl ?_
            refine y_iadd (v := 36) rfl (by decide) ?_
            refine x_iconst (v := 0) rfl ki_0 ?_
            refine y_iast (N := 50660) 36 rfl (F.1 126 (100, 50660) rfl rfl) rfl (jinb_of (by decide)) (by decide) ?_
            refine x_iinc (x := 16) (v := 17) (ls' := [(9, .int 17), (8, .int 20), (7, .int 0), (6, .int 1), (0, .ref 125), (1, .int a1), (2, .int a2), (3, .int a3), (4, .int a4), (5, .int a5)]) rfl rfl (by decide) rfl rfl ?_
            refine x_goto (tgt := 117) rfl rfl ?_
            refine x_iload (x := 17) rfl rfl ?_
            refine x_bipush (v := 90) rfl kb_90 ?_
            refine x_icge (tgt := 141) rfl rfl (br_f (by decide) ?_)
            refine x_aloadn (x := 125) rfl rfl ?_
            refine x_getR (b := 126) 12 2 rfl f_12_8 rfl (congrArg Prod.fst (F.1 125 (12, 92) rfl rfl)) (F.2.1 16002 126 rfl rfl) ?_
            refine x_iload (x := 20) rfl rfl ?_
            refine x_iload (x := 17) rfl rfl ?_
            refine y_iadd (v := 37) rfl (by decide) ?_
            refine x_iconst (v := 0) rfl ki_0 ?_
            refine y_iast (N := 50660) 37 rfl (F.1 126 (100, 50660) rfl rfl) rfl (jinb_of (by decide)) (by decide) ?_
            refine x_iinc (x := 17) (v := 18) (ls' := [(9, .int 18), (8, .int 20), (7, .int 0), (6, .int 1), (0, .ref 125), (1, .int a1), (2, .int a2), (3, .int a3), (4, .int a4), (5, .int a5)]) rfl rfl (by decide) rfl rfl ?_
            refine x_goto (tgt := 117) rfl rfl ?_
            refine x_iload (x := 18) rfl rfl ?_
            refine x_bipush (v := 90) rfl kb_90 ?_
            refine x_icge (tgt := 141) rfl rfl (br_f (by decide) ?_)
            refine x_aloadn (x := 125) rfl rfl ?_
            refine x_getR (b := 126) 12 2 rfl f_12_8 rfl (congrArg Prod.fst (F.1 125 (12, 92) rfl rfl)) (F.2.1 16002 126 rfl rfl) ?_
            refine x_iload (x := 20) rfl rfl ?_
            refine x_iload (x := 18) rfl rfl ?_
            refine y_iadd (v := 38) rfl (by decide) ?_
            refine x_iconst (v := 0) rfl ki_0 ?_
            refine y_iast (N := 50660) 38 rfl (F.1 126 (100, 50660) rfl rfl) rfl (jinb_of (by decide)) (by decide) ?_
            refine x_iinc (x := 18) (v := 19) (ls' := [(9, .int 19), (8, .int 20), (7, .int 0), (6, .int 1), (0, .ref 125), (1, .int a1), (2, .int a2), (3, .int a3), (4, .int a4), (5, .int a5)]) rfl rfl (by decide) rfl rfl ?_
            refine x_goto (tgt := 117) rfl rfl ?_
            refine x_iload (x := 19) rfl rfl ?_
            refine x_bipush (v := 90) rfl kb_90 ?_
            refine x_icge (tgt := 141) rfl rfl (br_f (by decide) ?_)
            refine x_aloadn (x := 125) rfl rfl ?_
            refine x_getR (b := 126) 12 2 rfl f_12_8 rfl (congrArg Prod.fst (F.1 125 (12, 92) rfl rfl)) (F.2.1 16002 126 rfl rfl) ?_
            refine x_iload (x := 20) rfl rfl ?_
            refine x_iload (x := 19) rfl rfl ?_
            refine y_iadd (v := 39) rfl (by decide) ?_
            refine x_iconst (v := 0) rfl ki_0 ?_
            refine y_iast (N := 50660) 39 rfl (F.1 126 (100, 50660) rfl rfl) rfl (jinb_of (by decide)) (by decide) ?_
            refine x_iinc (x := 19) (v := 20) (ls' := [(9, .int 20), (8, .int 20), (7, .int 0), (6, .int 1), (0, .ref 125), (1, .int a1), (2, .int a2), (3, .int a3), (4, .int a4), (5, .int a5)]) rfl rfl (by decide) rfl rfl ?_
            refine x_goto (tgt := 117) rfl rfl ?_
            refine x_iload (x := 20) rfl rfl ?_
            refine x_bipush (v := 90) rfl kb_90 ?_
            refine x_icge (tgt := 141) rfl rfl (br_f (by decide) ?_)
            refine x_aloadn (x := 125) rfl rfl ?_
            refine x_getR (b := 126) 12 2 rfl f_12_8 rfl (congrArg Prod.fst (F.1 125 (12, 92) rfl rfl)) (F.2.1 16002 126 rfl rfl) ?_
            refine x_iload (x := 20) rfl rfl ?_
            refine x_iload (x := 20) rfl rfl ?_
            refine y_iadd (v := 40) rfl (by decide) ?_
            refine x_iconst (v := 0) rfl ki_0 ?_
            refine y_iast (N := 50660) 40 rfl (F.1 126 (100, 50660) rfl rfl) rfl (jinb_of (by decide)) (by decide) ?_
            refine x_iinc (x := 20) (v := 21) (ls' := [(9, .int 21), (8, .int 20), (7, .int 0), (6, .int 1), (0, .ref 125), (1, .int a1), (2, .int a2), (3, .int a3), (4, .int a4), (5, .int a5)]) rfl rfl (by decide) rfl rfl ?_
            refine x_goto (tgt := 117) rfl rfl ?_
            refine x_iload (x := 21) rfl rfl ?_
            refine x_bipush (v := 90) rfl kb_90 ?_
            refine x_icge (tgt := 141) rfl rfl (br_f (by decide) ?_)
            refine x_aloadn (x := 125) rfl rfl ?_
            refine x_getR (b := 126) 12 2 rfl f_12_8 rfl (congrArg Prod.fst (F.1 125 (12, 92) rfl rfl)) (F.2.1 16002 126 rfl rfl) ?_
            refine x_iload (x := 20) rfl rfl ?_
            refine x_iload (x := 21) rfl rfl ?_
            refine y_iadd (v := 41) rfl (by decide) ?_
            refine x_iconst (v := 0) rfl ki_0 ?_
            refine y_iast (N := 50660) 41 rfl (F.1 126 (100, 50660) rfl rfl) rfl (jinb_of (by decide)) (by decide) ?_
            refine x_iinc (x := 21) (v := 22) (ls' := [(9, .int 22), (8, .int 20), (7, .int 0), (6, .int 1), (0, .ref 125), (1, .int a1), (2, .int a2), (3, .int a3), (4, .int a4), (5, .int a5)]) rfl rfl (by decide) rfl rfl ?_
            refine x_goto (tgt := 117) rfl rfl ?_
            refine x_iload (x := 22) rfl rfl ?_
            refine x_bipush (v := 90) rfl kb_90 ?_
            refine x_icge (tgt := 141) rfl rfl (br_f (by decide) ?_)
            refine x_aloadn (x := 125) rfl rfl ?_
            refine x_getR (b := 126) 12 2 rfl f_12_8 rfl (congrArg Prod.fst (F.1 125 (12, 92) rfl rfl)) (F.2.1 16002 126 rfl rfl) ?_
            refine x_iload (x := 20) rfl rfl ?_
            refine x_iload (x := 22) rfl rfl ?_
            refine y_iadd (v := 42) rfl (by decide) ?_
            refine x_iconst (v := 0) rfl ki_0 ?_
            refine y_iast (N := 50660) 42 rfl (F.1 126 (100, 50660) rfl rfl) rfl (jinb_of (by decide)) (by decide) ?_
            refine x_iinc (x := 22) (v := 23) (ls' := [(9, .int 23), (8, .int 20), (7, .int 0), (6, .int 1), (0, .ref 125), (1, .int a1), (2, .int a2), (3, .int a3), (4, .int a4), (5, .int a5)]) rfl rfl (by decide) rfl rfl ?_
            refine x_goto (tgt := 117) rfl rfl ?_
            refine x_iload (x := 23) rfl rfl ?_
            refine x_bipush (v := 90) rfl kb_90 ?_
            refine x_icge (tgt := 141) rfl rfl (br_f (by decide) ?_)
            refine x_aloadn (x := 125) rfl rfl ?_
            refine x_getR (b := 126) 12 2 rfl f_12_8 rfl (congrArg Prod.fst (F.1 125 (12, 92) rfl rfl)) (F.2.1 16002 126 rfl rfl) ?_
            refine x_iload (x := 20) rfl rfl ?_
            refine x_iload (x := 23) rfl rfl ?_
            refine y_iadd (v := 43) rfl (by decide) ?_
            refine x_iconst (v := 0) rfl ki_0 ?_
            refine y_iast (N := 50660) 43 rfl (F.1 126 (100, 50660) rfl rfl) rfl (jinb_of (by decide)) (by decide) ?_
            refine x_iinc (x := 23) (v := 24) (ls' := [(9, .int 24), (8, .int 20), (7, .int 0), (6, .int 1), (0, .ref 125), (1, .int a1), (2, .int a2), (3, .int a3), (4, .int a4), (5, .int a5)]) rfl rfl (by decide) rfl rfl ?_
            refine x_goto (tgt := 117) rfl rfl ?_
            refine x_iload (x := 24) rfl rfl ?_
            refine x_bipush (v := 90) rfl kb_90 ?_
            refine x_icge (tgt := 141) rfl rfl (br_f (by decide) ?_)
            refine x_aloadn (x := 125) rfl rfl ?_
            refine x_getR (b := 126) 12 2 rfl f_12_8 rfl (congrArg Prod.fst (F.1 125 (12, 92) rfl rfl)) (F.2.1 16002 126 rfl rfl) ?_
            refine x_iload (x := 20) rfl rfl ?_
            refine x_iload (x := 24) rfl rfl ?_
            refine y_iadd (v := 44) rfl (by decide) ?_
            refine x_iconst (v := 0) rfl ki_0 ?_
            refine y_iast (N := 50660) 44 rfl (F.1 126 (100, 50660) rfl rfl) rfl (jinb_of (by decide)) (by decide) ?_
            refine x_iinc (x := 24) (v := 25) (ls' := [(9, .int 25), (8, .int 20), (7, .int 0), (6, .int 1), (0, .ref 125), (1, .int a1), (2, .int a2), (3, .int a3), (4, .int a4), (5, .int a5)]) rfl rfl (by decide) rfl rfl ?_
            refine x_goto (tgt := 117) rfl rfl ?_
            refine x_iload (x := 25) rfl rfl ?_
            refine x_bipush (v := 90) rfl kb_90 ?_
            refine x_icge (tgt := 141) rfl rfl (br_f (by decide) ?_)
            refine x_aloadn (x := 125) rfl rfl ?_
            refine x_getR (b := 126) 12 2 rfl f_12_8 rfl (congrArg Prod.fst (F.1 125 (12, 92) rfl rfl)) (F.2.1 16002 126 rfl rfl) ?_
            refine x_iload (x := 20) rfl rfl ?_
            refine x_iload (x := 25) rfl rfl ?_
            refine y_iadd (v := 45) rfl (by decide) ?_
            refine x_iconst (v := 0) rfl ki_0 ?_
            refine y_iast (N := 50660) 45 rfl (F.1 126 (100, 50660) rfl rfl) rfl (jinb_of (by decide)) (by decide) ?_
            refine x_iinc (x := 25) (v := 26) (ls' := [(9, .int 26), (8, .int 20), (7, .int 0), (6, .int 1), (0, .ref 125), (1, .int a1), (2, .int a2), (3, .int a3), (4, .int a4), (5, .int a5)]) rfl rfl (by decide) rfl rfl ?_
            refine x_goto (tgt := 117) rfl rfl ?_
            refine x_iload (x := 26) rfl rfl ?_
            refine x_bipush (v := 90) rfl kb_90 ?_
            refine x_icge (tgt := 141) rfl rfl (br_f (by decide) ?_)
            refine x_aloadn (x := 125) rfl rfl ?_
            refine x_getR (b := 126) 12 2 rfl f_12_8 rfl (congrArg Prod.fst (F.1 125 (12, 92) rfl rfl)) (F.2.1 16002 126 rfl rfl) ?_
            refine x_iload (x := 20) rfl rfl ?_
            refine x_iload (x := 26) rfl rfl ?_
            refine y_iadd (v := 46) rfl (by decide) ?_
            refine x_iconst (v := 0) rfl ki_0 ?_
            refine y_iast (N := 50660) 46 rfl (F.1 126 (100, 50660) rfl rfl) rfl (jinb_of (by decide)) (by decide) ?_
            refine x_iinc (x := 26) (v := 27) (ls' := [(9, .int 27), (8, .int 20), (7, .int 0), (6, .int 1), (0, .ref 125), (1, .int a1), (2, .int a2), (3, .int a3), (4, .int a4), (5, .int a5)]) rfl rfl (by decide) rfl rfl ?_
            refine x_goto (tgt := 117) rfl rfl ?_
            refine x_iload (x := 27) rfl rfl ?_
            refine x_bipush (v := 90) rfl kb_90 ?_
            refine x_icge (tgt := 141) rfl rfl (br_f (by decide) ?_)
            refine x_aloadn (x := 125) rfl rfl ?_
            refine x_getR (b := 126) 12 2 rfl f_12_8 rfl (congrArg Prod.fst (F.1 125 (12, 92) rfl rfl)) (F.2.1 16002 126 rfl rfl) ?_
            refine x_iload (x := 20) rfl rfl ?_
            refine x_iload (x := 27) rfl rfl ?_
            refine y_iadd (v := 47) rfl (by decide) ?_
            refine x_iconst (v := 0) rfl ki_0 ?_
            refine y_iast (N := 50660) 47 rfl (F.1 126 (100, 50660) rfl rfl) rfl (jinb_of (by decide)) (by decide) ?_
            refine x_iinc (x := 27) (v := 28) (ls' := [(9, .int 28), (8, .int 20), (7, .int 0), (6, .int 1), (0, .ref 125), (1, .int a1), (2, .int a2), (3, .int a3), (4, .int a4), (5, .int a5)]) rfl rfl (by decide) rfl rfl ?_
            refine x_goto (tgt := 117) rfl rfl ?_
            refine x_iload (x := 28) rfl rfl ?_
            refine x_bipush (v := 90) rfl kb_90 ?_
            refine x_icge (tgt := 141) rfl rfl (br_f (by decide) ?_)
            refine x_aloadn (x := 125) rfl rfl ?_
            refine x_getR (b := 126) 12 2 rfl f_12_8 rfl (congrArg Prod.fst (F.1 125 (12, 92) rfl rfl)) (F.2.1 16002 126 rfl rfl) ?_
            refine x_iload (x := 20) rfl rfl ?_
            refine x_iload (x := 28) rfl rfl ?_
            refine y_iadd (v := 48) rfl (by decide) ?_
            refine x_iconst (v := 0) rfl ki_0 ?_
            refine y_iast (N := 50660) 48 rfl (F.1 126 (100, 50660) rfl rfl) rfl (jinb_of (by decide)) (by decide) ?_
            refine x_iinc (x := 28) (v := 29) (ls' := [(9, .int 29), (8, .int 20), (7, .int 0), (6, .int 1), (0, .ref 125), (1, .int a1), (2, .int a2), (3, .int a3), (4, .int a4), (5, .int a5)]) rfl rfl (by decide) rfl rfl ?_
            refine x_goto (tgt := 117) rfl rfl ?_
            refine x_iload (x := 29) rfl rfl ?_
            refine x_bipush (v := 90) rfl kb_90 ?_
            refine x_icge (tgt := 141) rfl rfl (br_f (by decide) ?_)
            refine x_aloadn (x := 125) rfl rfl ?_
            refine x_getR (b := 126) 12 2 rfl f_12_8 rfl (congrArg Prod.fst (F.1 125 (12, 92) rfl rfl)) (F.2.1 16002 126 rfl rfl) ?_
            refine x_iload (x := 20) rfl rfl ?_
            refine x_iload (x := 29) rfl rfl ?_
            refine y_iadd (v := 49) rfl (by decide) ?_
            refine x_iconst (v := 0) rfl ki_0 ?_
            refine y_iast (N := 50660) 49 rfl (F.1 126 (100, 50660) rfl rfl) rfl (jinb_of (by decide)) (by decide) ?_
            refine x_iinc (x := 29) (v := 30) (ls' := [(9, .int 30), (8, .int 20), (7, .int 0), (6, .int 1), (0, .ref 125), (1, .int a1), (2, .int a2), (3, .int a3), (4, .int a4), (5, .int a5)]) rfl rfl (by decide) rfl rfl ?_
            refine x_goto (tgt := 117) rfl rfl ?_
            refine x_iload (x := 30) rfl rfl ?_
            refine x_bipush (v := 90) rfl kb_90 ?_
            refine x_icge (tgt := 141) rfl rfl (br_f (by decide) ?_)
            refine x_aloadn (x := 125) rfl rfl ?_
            refine x_getR (b := 126) 12 2 rfl f_12_8 rfl (congrArg Prod.fst (F.1 125 (12, 92) rfl rfl)) (F.2.1 16002 126 rfl rfl) ?_
            refine x_iload (x := 20) rfl rfl ?_
            refine x_iload (x := 30) rfl rfl ?_
            refine y_iadd (v := 50) rfl (by decide) ?_
            refine x_iconst (v := 0) rfl ki_0 ?_
            refine y_iast (N := 50660) 50 rfl (F.1 126 (100, 50660) rfl rfl) rfl (jinb_of (by decide)) (by decide) ?_
            refine x_iinc (x := 30) (v := 31) (ls' := [(9, .int 31), (8, .int 20), (7, .int 0), (6, .int 1), (0, .ref 125), (1, .int a1), (2, .int a2), (3, .int a3), (4, .int a4), (5, .int a5)]) rfl rfl (by decide) rfl rfl ?_
            refine x_goto (tgt := 117) rfl rfl ?_
            refine x_iload (x := 31) rfl rfl ?_
            refine x_bipush (v := 90) rfl kb_90 ?_
            refine x_icge (tgt := 141) rfl rfl (br_f (by decide) ?_)
            refine x_aloadn (x := 125) rfl rfl ?_
            refine x_getR (b := 126) 12 2 rfl f_12_8 rfl (congrArg Prod.fst (F.1 125 (12, 92) rfl rfl)) (F.2.1 16002 126 rfl rfl) ?_
            refine x_iload (x := 20) rfl rfl ?_
            refine x_iload (x := 31) rfl rfl ?_
            refine y_iadd (v := 51) rfl (by decide) ?_
            refine x_iconst (v := 0) rfl ki_0 ?_
            refine y_iast (N := 50660) 51 rfl (F.1 126 (100, 50660) rfl rfl) rfl (jinb_of (by decide)) (by decide) ?_
            refine x_iinc (x := 31) (v := 32) (ls' := [(9, .int 32), (8, .int 20), (7, .int 0), (6, .int 1), (0, .ref 125), (1, .int a1), (2, .int a2), (3, .int a3), (4, .int a4), (5, .int a5)]) rfl rfl (by decide) rfl rfl ?_
            refine x_goto (tgt := 117) rfl rfl ?_
            refine x_iload (x := 32) rfl rfl ?_
            refine x_bipush (v := 90) rfl kb_90 ?_
            refine x_icge (tgt := 141) rfl rfl (br_f (by decide) ?_)
            refine x_aloadn (x := 125) rfl rfl ?_
            refine x_getR (b := 126) 12 2 rfl f_12_8 rfl (congrArg Prod.fst (F.1 125 (12, 92) rfl rfl)) (F.2.1 16002 126 rfl rfl) ?_
            refine x_iload (x := 20) rfl rfl ?_
            refine x_iload (x := 32) rfl rfl ?_
            refine y_iadd (v := 52) rfl (by decide) ?_
            refine x_iconst (v := 0) rfl ki_0 ?_
            refine y_iast (N := 50660) 52 rfl (F.1 126 (100, 50660) rfl rfl) rfl (jinb_of (by decide)) (by decide) ?_
            refine x_iinc (x := 32) (v := 33) (ls' := [(9, .int 33), (8, .int 20), (7, .int 0), (6, .int 1), (0, .ref 125), (1, .int a1), (2, .int a2), (3, .int a3), (4, .int a4), (5, .int a5)]) rfl rfl (by decide) rfl rfl ?_
            refine x_goto (tgt := 117) rfl rfl ?_
            refine x_iload (x := 33) rfl rfl ?_
            refine x_bipush (v := 90) rfl kb_90 ?_
            refine x_icge (tgt := 141) rfl rfl (br_f (by decide) ?_)
            refine x_aloadn (x := 125) rfl rfl ?_
            refine x_getR (b := 126) 12 2 rfl f_12_8 rfl (congrArg Prod.fst (F.1 125 (12, 92) rfl rfl)) (F.2.1 16002 126 rfl rfl) ?_
            refine x_iload (x := 20) rfl rfl ?_
            refine x_iload (x := 33) rfl rfl ?_
            refine y_iadd (v := 53) rfl (by decide) ?_
            refine x_iconst (v := 0) rfl ki_0 ?_
            refine y_iast (N := 50660) 53 rfl (F.1 126 (100, 50660) rfl rfl) rfl (jinb_of (by decide)) (by decide) ?_
            refine x_iinc (x := 33) (v := 34) (ls' := [(9, .int 34), (8, .int 20), (7, .int 0), (6, .int 1), (0, .ref 125), (1, .int a1), (2, .int a2), (3, .int a3), (4, .int a4), (5, .int a5)]) rfl rfl (by decide) rfl rfl ?_
            refine x_goto (tgt := 117) rfl rfl ?_
            refine x_iload (x := 34) rfl rfl ?_
            refine x_bipush (v := 90) rfl kb_90 ?_
            refine x_icge (tgt := 141) rfl rfl (br_f (by decide) ?_)
            refine x_aloadn (x := 125) rfl rfl ?_
            refine x_getR (b := 126) 12 2 rfl f_12_8 rfl (congrArg Prod.fst (F.1 125 (12, 92) rfl rfl)) (F.2.1 16002 126 rfl rfl) ?_
            refine x_iload (x := 20) rfl rfl ?_
            refine x_iload (x := 34) rfl rfl ?_
            refine y_iadd (v := 54) rfl (by decide) ?_
            refine x_iconst (v := 0) rfl ki_0 ?_
            refine y_iast (N := 50660) 54 rfl (F.1 126 (100, 50660) rfl rfl) rfl (jinb_of (by decide)) (by decide) ?_
            refine x_iinc (x := 34) (v := 35) (ls' := [(9, .int 35), (8, .int 20), (7, .int 0), (6, .int 1), (0, .ref 125), (1, .int a1), (2, .int a2), (3, .int a3), (4, .int a4), (5, .int a5)]) rfl rfl (by decide) rfl rfl ?_
            refine x_goto (tgt := 117) rfl rfl ?_
            refine x_iload (x := 35) rfl rfl ?_
            refine x_bipush (v := 90) rfl kb_90 ?_
            refine x_icge (tgt := 141) rfl rfl (br_f (by decide) ?_)
            refine x_aloadn (x := 125) rfl rfl ?_
            refine x_getR (b := 126) 12 2 rfl f_12_8 rfl (congrArg Prod.fst (F.1 125 (12, 92) rfl rfl)) (F.2.1 16002 126 rfl rfl) ?_
            refine x_iload (x := 20) rfl rfl ?_
            refine x_iload (x := 35) rfl rfl ?_
            refine y_iadd (v := 55) rfl (by decide) ?_
            refine x_iconst (v := 0) rfl ki_0 ?_
            refine y_iast (N := 50660) 55 rfl (F.1 126 (100, 50660) rfl rfl) rfl (jinb_of (by decide)) (by decide) ?_
            refine x_iinc (x := 35) (v := 36) (ls' := [(9, .int 36), (8, .int 20), (7, .int 0), (6, .int 1), (0, .ref 125), (1, .int a1), (2, .int a2), (3, .int a3), (4, .int a4), (5, .int a5)]) rfl rfl (by decide) rfl rfl ?_
            refine x_goto (tgt := 117) rfl rfl ?_
            refine x_iload (x := 36) rfl rfl ?_
            refine x_bipush (v := 90) rfl kb_90 ?_
            refine x_icge (tgt := 141) rfl rfl (br_f (by decide) ?_)
            refine x_aloadn (x := 125) rfl rfl ?_
            refine x_getR (b := 126) 12 2 rfl f_12_8 rfl (congrArg Prod.fst (F.1 125 (12, 92) rfl rfl)) (F.2.1 16002 126 rfl rfl) ?_
            refine x_iload (x := 20) rfl rfl ?_
            refine x_iload (x := 36) rfl rfl ?_
            refine y_iadd (v := 56) rfl (by decide) ?_
            refine x_iconst (v := 0) rfl ki_0 ?_
            refine y_iast (N := 50660) 56 rfl (F.1 126 (100, 50660) rfl rfl) rfl (jinb_of (by decide)) (by decide) ?_
            refine x_iinc (x := 36) (v := 37) (ls' := [(9, .int 37), (8, .int 20), (7, .int 0), (6, .int 1), (0, .ref 125), (1, .int a1), (2, .int a2), (3, .int a3), (4, .int a4), (5, .int a5)]) rfl rfl (by decide) rfl rfl ?_
            refine x_goto (tgt := 117) rfl rfl ?_
            refine x_iload (x := 37) rfl rfl ?_
            refine x_bipush (v := 90) rfl kb_90 ?_
            refine x_icge (tgt := 141) rfl rfl (br_f (by decide) ?_)
            refine x_aloadn (x := 125) rfl rfl ?_
            refine x_getR (b := 126) 12 2 rfl f_12_8 rfl (congrArg Prod.fst (F.1 125 (12, 92) rfl rfl)) (F.2.1 16002 126 rfl rfl) ?_
            refine x_iload (x := 20) rfl rfl ?_
            refine x_iload (x := 37) rfl rfl ?_
            refine y_iadd (v := 57) rfl (by decide) ?_
            refine x_iconst (v := 0) rfl ki_0 ?_
            refine y_iast (N := 50660) 57 rfl (F.1 126 (100, 50660) rfl rfl) rfl (jinb_of (by decide)) (by decide) ?_
            refine x_iinc (x := 37) (v := 38) (ls' := [(9, .int 38), (8, .int 20), (7, .int 0), (6, .int 1), (0, .ref 125), (1, .int a1), (2, .int a2), (3, .int a3), (4, .int a4), (5, .int a5)]) rfl rfl (by decide) rfl rfl ?_
            refine x_goto (tgt := 117) rfl rfl ?_
            refine x_iload (x := 38) rfl rfl ?_
            refine x_bipush (v := 90) rfl kb_90 ?_
            refine x_icge (tgt := 141) rfl rfl (br_f (by decide) ?_)
            refine x_aloadn (x := 125) rfl rfl ?_
            refine x_getR (b := 126) 12 2 rfl f_12_8 rfl (congrArg Prod.fst (F.1 125 (12, 92) rfl rfl)) (F.2.1 16002 126 rfl rfl) ?_
            refine x_iload (x := 20) rfl rfl ?_
            refine x_iload (x := 38) rfl rfl ?_
            refine y_iadd (v := 58) rfl (by decide) ?_
            refine x_iconst (v := 0) rfl ki_0 ?_
            refine y_iast (N := 50660) 58 rfl (F.1 126 (100, 50660) rfl rfl) rfl (jinb_of (by decide)) (by decide) ?_
            refine x_iinc (x := 38) (v := 39) (ls' := [(9, .int 39), (8, .int 20), (7, .int 0), (6, .int 1), (0, .ref 125), (1, .int a1), (2, .int a2), (3, .int a3), (4, .int a4), (5, .int a5)]) rfl rfl (by decide) rfl rfl ?_
            refine x_goto (tgt := 117) rfl rfl ?_
            refine x_iload (x := 39) rfl rfl ?_
            refine x_bipush (v := 90) rfl kb_90 ?_
            refine x_icge (tgt := 141) rfl rfl (br_f (by decide) ?_)
            refine x_aloadn (x := 125) rfl rfl ?_
            refine x_getR (b := 126) 12 2 rfl f_12_8 rfl (congrArg Prod.fst (F.1 125 (12, 92) rfl rfl)) (F.2.1 16002 126 rfl rfl) ?_
            refine x_iload (x := 20) rfl rfl ?_
            refine x_iload (x := 39) rfl rfl ?_
            refine y_iadd (v := 59) rfl (by decide) ?_
            refine x_iconst (v := 0) rfl ki_0 ?_
            refine y_iast (N := 50660) 59 rfl (F.1 126 (100, 50660) rfl rfl) rfl (jinb_of (by decide)) (by decide) ?_
            refine x_iinc (x := 39) (v := 40) (ls' := [(9, .int 40), (8, .int 20), (7, .int 0), (6, .int 1), (0, .ref 125), (1, .int a1), (2, .int a2), (3, .int a3), (4, .int a4), (5, .int a5)]) rfl rfl (by decide) rfl rfl ?_
            refine x_goto (tgt := 117) rfl rfl ?_
            refine x_iload (x := 40) rfl rfl ?_
            refine x_bipush (v := 90) rfl kb_90 ?_
            refine x_icge (tgt := 141) rfl rfl (br_f (by decide) ?_)
            refine x_aloadn (x := 125) rfl rfl ?_
            refine x_getR (b := 126) 12 2 rfl f_12_8 rfl (congrArg Prod.fst (F.1 125 (12, 92) rfl rfl)) (F.2.1 16002 126 rfl rfl) ?_
            refine x_iload (x := 20) rfl rfl ?_
            refine x_iload (x := 40) rfl rfl ?_
            refine y_iadd (v := 60) rfl (by decide) ?_
            refine x_iconst (v := 0) rfl ki_0 ?_
            refine y_iast (N := 50660) 60 rfl (F.1 126 (100, 50660) rfl rfl) rfl (jinb_of (by decide)) (by decide) ?_
            refine x_iinc (x := 40) (v := 41) (ls' := [(9, .int 41), (8, .int 20), (7, .int 0), (6, .int 1), (0, .ref 125), (1, .int a1), (2, .int a2), (3, .int a3), (4, .int a4), (5, .int a5)]) rfl rfl (by decide) rfl rfl ?_
            refine x_goto (tgt := 117) rfl rfl ?_
            refine x_iload (x := 41) rfl rfl ?_
            refine x_bipush (v := 90) rfl kb_90 ?_
            refine x_icge (tgt := 141) rfl rfl (br_f (by decide) ?_)
            refine x_aloadn (x := 125) rfl rfl ?_
            refine x_getR (b := 126) 12 2 rfl f_12_8 rfl (congrArg Prod.fst (F.1 125 (12, 92) rfl rfl)) (F.2.1 16002 126 rfl rfl) ?_
            refine x_iload (x := 20) rfl rfl ?_
            refine x_iload (x := 41) rfl rfl ?_
            refine y_iadd (v := 61) rfl (by decide) ?_
            refine x_iconst (v := 0) rfl ki_0 ?_
            refine y_iast (N := 50660) 61 rfl (F.1 126 (100, 50660) rfl rfl) rfl (jinb_of (by decide)) (by decide) ?_
            refine x_iinc (x := 41) (v := 42) (ls' := [(9, .int 42), (8, .int 20), (7, .int 0), (6, .int 1), (0, .ref 125), (1, .int a1), (2, .int a2), (3, .int a3), (4, .int a4), (5, .int a5)]) rfl rfl (by decide) rfl rfl ?_
            refine x_goto (tgt := 117) rfl rfl ?_
            refine x_iload (x := 42) rfl rfl ?_
            refine x_bipush (v := 90) rfl kb_90 ?_
            refine x_icge (tgt := 141) rfl rfl (br_f (by decide) ?_)
            refine x_aloadn (x := 125) rfl rfl ?_
            refine x_getR (b := 126) 12 2 rfl f_12_8 rfl (congrArg Prod.fst (F.1 125 (12, 92) rfl rfl)) (F.2.1 16002 126 rfl rfl) ?_
            refine x_iload (x := 20) rfl rfl ?_
            refine x_iload (x := 42) rfl rfl ?_
            refine y_iadd (v := 62) rfl (by decide) ?_
            refine x_iconst (v := 0) rfl ki_0 ?_
            refine y_iast (N := 50660) 62 rfl (F.1 126 (100, 50660) rfl rfl) rfl (jinb_of (by decide)) (by decide) ?_
            refine x_iinc (x := 42) (v := 43) (ls' := [(9, .int 43), (8, .int 20), (7, .int 0), (6, .int 1), (0, .ref 125), (1, .int a1), (2, .int a2), (3, .int a3), (4, .int a4), (5, .int a5)]) rfl rfl (by decide) rfl rfl ?_
            refine x_goto (tgt := 117) rfl rfl ?_
            refine x_iload (x := 43) rfl rfl ?_
            refine x_bipush (v := 90) rfl kb_90 ?_
            refine x_icge (tgt := 141) rfl rfl (br_f (by decide) ?_)
            refine x_aloadn (x := 125) rfl rfl ?_
            refine x_getR (b := 126) 12 2 rfl f_12_8 rfl (congrArg Prod.fst (F.1 125 (12, 92) rfl rfl)) (F.2.1 16002 126 rfl rfl) ?_
            refine x_iload (x := 20) rfl rfl ?_
            refine x_iload (x := 43) rfl rfl ?_
            refine y_iadd (v := 63) rfl (by decide) ?_
            refine x_iconst (v := 0) rfl ki_0 ?_
            refine y_iast (N := 50660) 63 rfl (F.1 126 (100, 50660) rfl rfl) rfl (jinb_of (by decide)) (by decide) ?_
            refine x_iinc (x := 43) (v := 44) (ls' := [(9, .int 44), (8, .int 20), (7, .int 0), (6, .int 1), (0, .ref 125), (1, .int a1), (2, .int a2), (3, .int a3), (4, .int a4), (5, .int a5)]) rfl rfl (by decide) rfl rfl ?_
            refine x_goto (tgt := 117) rfl rfl ?_
            refine x_iload (x := 44) rfl rfl ?_
            refine x_bipush (v := 90) rfl kb_90 ?_
            refine x_icge (tgt := 141) rfl rfl (br_f (by decide) ?_)
            refine x_aloadn (x := 125) rfl rfl ?_
            refine x_getR (b := 126) 12 2 rfl f_12_8 rfl (congrArg Prod.fst (F.1 125 (12, 92) rfl rfl)) (F.2.1 16002 126 rfl rfl) ?_
            refine x_iload (x := 20) rfl rfl ?_
            refine x_iload (x := 44) rfl rfl ?_
            refine y_iadd (v := 64) rfl (by decide) ?_
            refine x_iconst (v := 0) rfl ki_0 ?_
            refine y_iast (N := 50660) 64 rfl (F.1 126 (100, 50660) rfl rfl) rfl (jinb_of (by decide)) (by decide) ?_
            refine x_iinc (x := 44) (v := 45) (ls' := [(9, .int 45), (8, .int 20), (7, .int 0), (6, .int 1), (0, .ref 125), (1, .int a1), (2, .int a2), (3, .int a3), (4, .int a4), (5, .int a5)]) rfl rfl (by decide) rfl rfl ?_
            refine x_goto (tgt := 117) rfl rfl ?_
            refine x_iload (x := 45) rfl rfl ?_
            refine x_bipush (v := 90) rfl kb_90 ?_
            refine x_icge (tgt := 141) rfl rfl (br_f (by decide) ?_)
            refine x_aloadn (x := 125) rfl rfl ?_
            refine x_getR (b := 126) 12 2 rfl f_12_8 rfl (congrArg Prod.fst (F.1 125 (12, 92) rfl rfl)) (F.2.1 16002 126 rfl rfl) ?_
            refine x_iload (x := 20) rfl rfl ?_
            refine x_iload (x := 45) rfl rfl ?_
            refine y_iadd (v := 65) rfl (by decide) ?_
            refine x_iconst (v := 0) rfl ki_0 ?_
            refine y_iast (N := 50660) 65 rfl (F.1 126 (100, 50660) rfl rfl) rfl (jinb_of (by decide)) (by decide) ?_
            refine x_iinc (x := 45) (v := 46) (ls' := [(9, .int 46), (8, .int 20), (7, .int 0), (6, .int 1), (0, .ref 125), (1, .int a1), (2, .int a2), (3, .int a3), (4, .int a4), (5, .int a5)]) rfl rfl (by decide) rfl rfl ?_
            refine x_goto (tgt := 117) rfl rfl ?_
            refine x_iload (x := 46) rfl rfl ?_
            refine x_bipush (v := 90) rfl kb_90 ?_
            refine x_icge (tgt := 141) rfl rfl (br_f (by decide) ?_)
            refine x_aloadn (x := 125) rfl rfl ?_
            refine x_getR (b := 126) 12 2 rfl f_12_8 rfl (congrArg Prod.fst (F.1 125 (12, 92) rfl rfl)) (F.2.1 16002 126 rfl rfl) ?_
            refine x_iload (x := 20) rfl rfl ?_
            refine x_iload (x := 46) rfl rfl ?_
            refine y_iadd (v := 66) rfl (by decide) ?_
            refine x_iconst (v := 0) rfl ki_0 ?_
            refine y_iast (N := 50660) 66 rfl (F.1 126 (100, 50660) rfl rfl) rfl (jinb_of (by decide)) (by decide) ?_
            refine x_iinc (x := 46) (v := 47) (ls' := [(9, .int 47), (8, .int 20), (7, .int 0), (6, .int 1), (0, .ref 125), (1, .int a1), (2, .int a2), (3, .int a3), (4, .int a4), (5, .int a5)]) rfl rfl (by decide) rfl rfl ?_
            refine x_goto (tgt := 117) rfl rfl ?_
            refine x_iload (x := 47) rfl rfl ?_
            refine x_bipush (v := 90) rfl kb_90 ?_
            refine x_icge (tgt := 141) rfl rfl (br_f (by decide) ?_)
            refine x_aloadn (x := 125) rfl rfl ?_
            refine x_getR (b := 126) 12 2 rfl f_12_8 rfl (congrArg Prod.fst (F.1 125 (12, 92) rfl rfl)) (F.2.1 16002 126 rfl rfl) ?_
            refine x_iload (x := 20) rfl rfl ?_
            refine x_iload (x := 47) rfl rfl ?_
            refine y_iadd (v := 67) rfl (by decide) ?_
            refine x_iconst (v := 0) rfl ki_0 ?_
            refine y_iast (N := 50660) 67 rfl (F.1 126 (100, 50660) rfl rfl) rfl (jinb_of (by decide)) (by decide) ?_
            refine x_iinc (x := 47) (v := 48) (ls' := [(9, .int 48), (8, .int 20), (7, .int 0), (6, .int 1), (0, .ref 125), (1, .int a1), (2, .int a2), (3, .int a3), (4, .int a4), (5, .int a5)]) rfl rfl (by decide) rfl rfl ?_
            refine x_goto (tgt := 117) rfl rfl ?_
            refine x_iload (x := 48) rfl rfl ?_
            refine x_bipush (v := 90) rfl kb_90 ?_
            refine x_icge (tgt := 141) rfl rfl (br_f (by decide) ?_)
            refine x_aloadn (x := 125) rfl rfl ?_
            refine x_getR (b := 126) 12 2 rfl f_12_8 rfl (congrArg Prod.fst (F.1 125 (12, 92) rfl rfl)) (F.2.1 16002 126 rfl rfl) ?_
            refine x_iload (x := 20) rfl rfl ?_
            refine x_iload (x := 48) rfl rfl ?_
            refine y_iadd (v := 68) rfl (by decide) ?_
            refine x_iconst (v := 0) rfl ki_0 ?_
            refine y_iast (N := 50660) 68 rfl (F.1 126 (100, 50660) rfl rfl) rfl (jinb_of (by decide)) (by decide) ?_
            refine x_iinc (x := 48) (v := 49) (ls' := [(9, .int 49), (8, .int 20), (7, .int 0), (6, .int 1), (0, .ref 125), (1, .int a1), (2, .int a2), (3, .int a3), (4, .int a4), (5, .int a5)]) rfl rfl (by decide) rfl rfl ?_
            refine x_goto (tgt := 117) rfl rfl ?_
            refine x_iload (x := 49) rfl rfl ?_
            refine x_bipush (v := 90) rfl kb_90 ?_
            refine x_icge (tgt := 141) rfl rfl (br_f (by decide) ?_)
            refine x_aloadn (x := 125) rfl rfl ?_
            refine x_getR (b := 126) 12 2 rfl f_12_8 rfl (congrArg Prod.fst (F.1 125 (12, 92) rfl rfl)) (F.2.1 16002 126 rfl rfl) ?_
            refine x_iload (x := 20) rfl rfl ?_
            refine x_iload (x := 49) rfl rfl ?_
            refine y_iadd (v := 69) rfl (by decide) ?_
            refine x_iconst (v := 0) rfl ki_0 ?_
            refine y_iast (N := 50660) 69 rfl (F.1 126 (100, 50660) rfl rfl) rfl (jinb_of (by decide)) (by decide) ?_
            refine x_iinc (x := 49) (v := 50) (ls' := [(9, .int 50), (8, .int 20), (7, .int 0), (6, .int 1), (0, .ref 125), (1, .int a1), (2, .int a2), (3, .int a3), (4, .int a4), (5, .int a5)]) rfl rfl (by decide) rfl rfl ?_
            refine x_goto (tgt := 117) rfl rfl ?_
            refine x_iload (x := 50) rfl rfl ?_
            refine x_bipush (v := 90) rfl kb_90 ?_
            refine x_icge (tgt := 141) rfl rfl (br_f (by decide) ?_)
            refine x_aloadn (x := 125) rfl rfl ?_
            refine x_getR (b := 126) 12 2 rfl f_12_8 rfl (congrArg Prod.fst (F.1 125 (12, 92) rfl rfl)) (F.2.1 16002 126 rfl rfl) ?_
            refine x_iload (x := 20) rfl rfl ?_
            refine x_iload (x := 50) rfl rfl ?_
            refine y_iadd (v := 70) rfl (by decide) ?_
            refine x_iconst (v := 0) rfl ki_0 ?_
            refine y_iast (N := 50660) 70 rfl (F.1 126 (100, 50660) rfl rfl) rfl (jinb_of (by decide)) (by decide) ?_
            refine x_iinc (x := 50) (v := 51) (ls' := [(9, .int 51), (8, .int 20), (7, .int 0), (6, .int 1), (0, .ref 125), (1, .int a1), (2, .int a2), (3, .int a3), (4, .int a4), (5, .int a5)]) rfl rfl (by decide) rfl rfl ?_
            refine x_goto (tgt := 117) rfl rfl ?_
            refine x_iload (x := 51) rfl rfl ?_
            refine x_bipush (v := 90) rfl kb_90 ?_
            refine x_icge (tgt := 141) rfl rfl (br_f (by decide) ?_)
            refine x_aloadn (x := 125) rfl rfl ?_
            refine x_getR (b := 126) 12 2 rfl f_12_8 rfl (congrArg Prod.fst (F.1 125 (12, 92) rfl rfl)) (F.2.1 16002 126 rfl rfl) ?_
            refine x_iload (x := 20) rfl rfl ?_
            refine x_iload (x := 51) rfl rfl ?_
            refine y_iadd (v := 71) rfl (by decide) ?_
            refine x_iconst (v := 0) rfl ki_0 ?_
            refine y_iast (N := 50660) 71 rfl (F.1 126 (100, 50660) rfl rfl) rfl (jinb_of (by decide)) (by decide) ?_
            refine x_iinc (x := 51) (v := 52) (ls' := [(9, .int 52), (8, .int 20), (7, .int 0), (6, .int 1), (0, .ref 125), (1, .int a1), (2, .int a2), (3, .int a3), (4, .int a4), (5, .int a5)]) rfl rfl (by decide) rfl rfl ?_
            refine x_goto (tgt := 117) rfl rfl ?_
            refine x_iload (x := 52) rfl rfl ?_
            refine x_bipush (v := 90) rfl kb_90 ?_
            refine x_icge (tgt := 141) rfl rfl (br_f (by decide) ?_)
            refine x_aloadn (x := 125) rfl rfl ?_
            refine x_getR (b := 126) 12 2 rfl f_12_8 rfl (congrArg Prod.fst (F.1 125 (12, 92) rfl rfl)) (F.2.1 16002 126 rfl rfl) ?_
            refine x_iload (x := 20) rfl rfl ?_
            refine x_iload (x := 52) rfl rfl ?_
            refine y_iadd (v := 72) rfl (by decide) ?_
            refine x_iconst (v := 0) rfl ki_0 ?_
            refine y_iast (N := 50660) 72 rfl (F.1 126 (100, 50660) rfl rfl) rfl (jinb_of (by decide)) (by decide) ?_
            refine x_iinc (x := 52) (v := 53) (ls' := [(9, .int 53), (8, .int 20), (7, .int 0), (6, .int 1), (0, .ref 125), (1, .int a1), (2, .int a2), (3, .int a3), (4, .int a4), (5, .int a5)]) rfl rfl (by decide) rfl rfl ?_
            refine x_goto (tgt := 117) rfl rfl ?_
            refine x_iload (x := 53) rfl rfl ?_
            refine x_bipush (v := 90) rfl kb_90 ?_
            refine x_icge (tgt := 141) rfl rfl (br_f (by decide) ?_)
            refine x_aloadn (x := 125) rfl rfl ?_
            refine x_getR (b := 126) 12 2 rfl f_12_8 rfl (congrArg Prod.fst (F.1 125 (12, 92) rfl rfl)) (F.2.1 16002 126 rfl rfl) ?_
            refine x_iload (x := 20) rfl rfl ?_
            refine x_iload (x := 53) rfl rfl ?_
            refine y_iadd (v := 73) rfl (by decide) ?_
            refine x_iconst (v := 0) rfl ki_0 ?_
            refine y_iast (N := 50660) 73 rfl (F.1 126 (100, 50660) rfl rfl) rfl (jinb_of (by decide)) (by decide) ?_
            refine x_iinc (x := 53) (v := 54) (ls' := [(9, .int 54), (8, .int 20), (7, .int 0), (6, .int 1), (0, .ref 125), (1, .int a1), (2, .int a2), (3, .int a3), (4, .int a4), (5, .int a5)]) rfl rfl (by decide) rfl rfl ?_
            refine x_goto (tgt := 117) rfl rfl ?_
            refine x_iload (x := 54) rfl rfl ?_
            refine x_bipush (v := 90) rfl kb_90 ?_
            refine x_icge (tgt := 141) rfl rfl (br_f (by decide) ?_)
            refine x_aloadn (x := 125) rfl rfl ?_
            refine x_getR (b := 126) 12 2 rfl f_12_8 rfl (congrArg Prod.fst (F.1 125 (12, 92) rfl rfl)) (F.2.1 16002 126 rfl rfl) ?_
            refine x_iload (x := 20) rfl rfl ?_
            refine x_iload (x := 54) rfl rfl ?_
            refine y_iadd (v := 74) rfl (by decide) ?_
            refine x_iconst (v := 0) rfl ki_0 ?_
            refine y_iast (N := 50660) 74 rfl (F.1 126 (100, 50660) rfl rfl) rfl (jinb_of (by decide)) (by decide) ?_
            refine x_iinc (x := 54) (v := 55) (ls' := [(9, .int 55), (8, .int 20), (7, .int 0), (6, .int 1), (0, .ref 125), (1, .int a1), (2, .int a2), (3, .int a3), (4, .int a4), (5, .int a5)]) rfl rfl (by decide) rfl rfl ?_
            refine x_goto (tgt := 117) rfl rfl ?_
            refine x_iload (x := 55) rfl rfl ?_
            refine x_bipush (v := 90) rfl kb_90 ?_
            refine x_icge (tgt := 141) rfl rfl (br_f (by decide) ?_)
            refine x_aloadn (x := 125) rfl rfl ?_
            refine x_getR (b := 126) 12 2 rfl f_12_8 rfl (congrArg Prod.fst (F.1 125 (12, 92) rfl rfl)) (F.2.1 16002 126 rfl rfl) ?_
            refine x_iload (x := 20) rfl rfl ?_
            refine x_iload (x := 55) rfl rfl ?_
            refine y_iadd (v := 75) rfl (by decide) ?_
            refine x_iconst (v := 0) rfl ki_0 ?_
            refine y_iast (N := 50660) 75 rfl (F.1 126 (100, 50660) rfl rfl) rfl (jinb_of (by decide)) (by decide) ?_
            refine x_iinc (x := 55) (v := 56) (ls' := [(9, .int 56), (8, .int 20), (7, .int 0), (6, .int 1), (0, .ref 125), (1, .int a1), (2, .int a2), (3, .int a3), (4, .int a4), (5, .int a5)]) rfl rfl (by decide) rfl rfl ?_
            refine x_goto (tgt := 117) rfl rfl ?_
            refine x_iload (x := 56) rfl rfl ?_
            refine x_bipush (v := 90) rfl kb_90 ?_
            refine x_icge (tgt := 141) rfl rfl (br_f (by decide) ?_)
            refine x_aloadn (x := 125) rfl rfl ?_
            refine x_getR (b := 126) 12 2 rfl f_12_8 rfl (congrArg Prod.fst (F.1 125 (12, 92) rfl rfl)) (F.2.1 16002 126 rfl rfl) ?_
            refine x_iload (x := 20) rfl rfl ?_
            refine x_iload (x := 56) rfl rfl ?_
            refine y_iadd (v := 76) rfl (by decide) ?_
            refine x_iconst (v := 0) rfl ki_0 ?_
            refine y_iast (N := 50660) 76 rfl (F.1 126 (100, 50660) rfl rfl) rfl (jinb_of (by decide)) (by decide) ?_
            refine x_iinc (x := 56) (v := 57) (ls' := [(9, .int 57), (8, .int 20), (7, .int 0), (6, .int 1), (0, .ref 125), (1, .int a1), (2, .int a2), (3, .int a3), (4, .int a4), (5, .int a5)]) rfl rfl (by decide) rfl rfl ?_
            refine x_goto (tgt := 117) rfl rfl ?_
            refine x_iload (x := 57) rfl rfl ?_
            refine x_bipush (v := 90) rfl kb_90 ?_
            refine x_icge (tgt := 141) rfl rfl (br_f (by decide) ?_)
            refine x_aloadn (x := 125) rfl rfl ?_
            refine x_getR (b := 126) 12 2 rfl f_12_8 rfl (congrArg Prod.fst (F.1 125 (12, 92) rfl rfl)) (F.2.1 16002 126 rfl rfl) ?_
            refine x_iload (x := 20) rfl rfl ?_
            refine x_iload (x := 57) rfl rfl ?_
            refine y_iadd (v := 77) rfl (by decide) ?_
            refine x_iconst (v := 0) rfl ki_0 ?_
            refine y_iast (N := 50660) 77 rfl (F.1 126 (100, 50660) rfl rfl) rfl (jinb_of (by decide)) (by decide) ?_
            refine x_iinc (x := 57) (v := 58) (ls' := [(9, .int 58), (8, .int 20), (7, .int 0), (6, .int 1), (0, .ref 125), (1, .int a1), (2, .int a2), (3, .int a3), (4, .int a4), (5, .int a5)]) rfl rfl (by decide) rfl rfl ?_
            refine x_goto (tgt := 117) rfl rfl ?_
            refine x_iload (x := 58) rfl rfl ?_
            refine x_bipush (v := 90) rfl kb_90 ?_
            refine x_icge (tgt := 141) rfl rfl (br_f (by decide) ?_)
            refine x_aloadn (x := 125) rfl rfl ?_
            refine x_getR (b := 126) 12 2 rfl f_12_8 rfl (congrArg Prod.fst (F.1 125 (12, 92) rfl rfl)) (F.2.1 16002 126 rfl rfl) ?_
            refine x_iload (x := 20) rfl rfl ?_
            refine x_iload (x := 58) rfl rfl ?_
            refine y_iadd (v := 78) rfl (by decide) ?_
            refine x_iconst (v := 0) rfl ki_0 ?_
            refine y_iast (N := 50660) 78 rfl (F.1 126 (100, 50660) rfl rfl) rfl (jinb_of (by decide)) (by decide) ?_
            refine x_iinc (x := 58) (v := 59) (ls' := [(9, .int 59), (8, .int 20), (7, .int 0), (6, .int 1), (0, .ref 125), (1, .int a1), (2, .int a2), (3, .int a3), (4, .int a4), (5, .int a5)]) rfl rfl (by decide) rfl rfl ?_
            refine x_goto (tgt := 117) rfl rfl ?_
            refine x_iload (x := 59) rfl rfl ?_
            refine x_bipush (v := 90) rfl kb_90 ?_
            refine x_icge (tgt := 141) rfl rfl (br_f (by decide) ?_)
            refine x_aloadn (x := 125) rfl rfl ?_
            refine x_getR (b := 126) 12 2 rfl f_12_8 rfl (congrArg Prod.fst (F.1 125 (12, 92) rfl rfl)) (F.2.1 16002 126 rfl rfl) ?_
            refine x_iload (x := 20) rfl rfl ?_
            refine x_iload (x := 59) rfl rfl ?_
            refine y_iadd (v := 79) rfl (by decide) ?_
            refine x_iconst (v := 0) rfl ki_0 ?_
            refine y_iast (N := 50660) 79 rfl (F.1 126 (100, 50660) rfl rfl) rfl (jinb_of (by decide)) (by decide) ?_
            refine x_iinc (x := 59) (v := 60) (ls' := [(9, .int 60), (8, .int 20), (7, .int 0), (6, .int 1), (0, .ref 125), (1, .int a1), (2, .int a2), (3, .int a3), (4, .int a4), (5, .int a5)]) rfl rfl (by decide) rfl rfl ?_
            refine x_goto (tgt := 117) rfl rfl ?_
            refine x_iload (x := 60) rfl rfl ?_
            refine x_bipush (v := 90) rfl kb_90 ?_
            refine x_icge (tgt := 141) rfl rfl (br_f (by decide) ?_)
            refine x_aloadn (x := 125) rfl rfl ?_
            refine x_getR (b := 126) 12 2 rfl f_12_8 rfl (congrArg Prod.fst (F.1 125 (12, 92) rfl rfl)) (F.2.1 16002 126 rfl rfl) ?_
            refine x_iload (x := 20) rfl rfl ?_
            refine x_iload (x := 60) rfl rfl ?_
            refine y_iadd (v := 80) rfl (by decide) ?_
            refine x_iconst (v := 0) rfl ki_0 ?_
            refine y_iast (N := 50660) 80 rfl (F.1 126 (100, 50660) rfl rfl) rfl (jinb_of (by decide)) (by decide) ?_
            refine x_iinc (x := 60) (v := 61) (ls' := [(9, .int 61), (8, .int 20), (7, .int 0), (6, .int 1), (0, .ref 125), (1, .int a1), (2, .int a2), (3, .int a3), (4, .int a4), (5, .int a5)]) rfl rfl (by decide) rfl rfl ?_
            refine x_goto (tgt := 117) rfl rfl ?_
            refine x_iload (x := 61) rfl rfl ?_
            refine x_bipush (v := 90) rfl kb_90 ?_
            refine x_icge (tgt := 141) rfl rfl (br_f (by decide) ?_)
            refine x_aloadn (x := 125) rfl rfl ?_
            refine x_getR (b := 126) 12 2 rfl f_12_8 rfl (congrArg Prod.fst (F.1 125 (12, 92) rfl rfl)) (F.2.1 16002 126 rfl rfl) ?_
            refine x_iload (x := 20) rfl rfl ?_
            refine x_iload (x := 61) rfl rfl ?_
            refine y_iadd (v := 81) rfl (by decide) ?_
            refine x_iconst (v := 0) rfl ki_0 ?_
            refine y_iast (N := 50660) 81 rfl (F.1 126 (100, 50660) rfl rfl) rfl (jinb_of (by decide)) (by decide) ?_
            refine x_iinc (x := 61) (v := 62) (ls' := [(9, .int 62), (8, .int 20), (7, .int 0), (6, .int 1), (0, .ref 125), (1, .int a1), (2, .int a2), (3, .int a3), (4, .int a4), (5, .int a5)]) rfl rfl (by decide) rfl rfl ?_
            refine x_goto (tgt := 117) rfl rfl ?_
            refine x_iload (x := 62) rfl rfl ?_
            refine x_bipush (v := 90) rfl kb_90 ?_
            refine x_icge (tgt := 141) rfl rfl (br_f (by decide) ?_)
            refine x_aloadn (x := 125) rfl rfl ?_
            refine x_getR (b := 126) 12 2 rfl f_12_8 rfl (congrArg Prod.fst (F.1 125 (12, 92) rfl rfl)) (F.2.1 16002 126 rfl rfl) ?_
            refine x_iload (x := 20) rfl rfl ?_
            refine x_iload (x := 62) rfl rfl ?_
            refine y_iadd (v := 82) rfl (by decide) ?_
            refine x_iconst (v := 0) rfl ki_0 ?_
            refine y_iast (N := 50660) 82 rfl (F.1 126 (100, 50660) rfl rfl) rfl (jinb_of (by decide)) (by decide) ?_
            refine x_iinc (x := 62) (v := 63) (ls' := [(9, .int 63), (8, .int 20), (7, .int 0), (6, .int 1), (0, .ref 125), (1, .int a1), (2, .int a2), (3, .int a3), (4, .int a4), (5, .int a5)]) rfl rfl (by decide) rfl rfl ?_
            refine x_goto (tgt := 117) rfl rfl ?_
            refine x_iload (x := 63) rfl rfl ?_
            refine x_bipush (v := 90) rfl kb_90 ?_
            refine x_icge (tgt := 141) rfl rfl (br_f (by decide) ?_)
            refine x_aloadn (x := 125) rfl rfl ?_
            refine x_getR (b := 126) 12 2 rfl f_12_8 rfl (congrArg Prod.fst (F.1 125 (12, 92) rfl rfl)) (F.2.1 16002 126 rfl rfl) ?_
            refine x_iload (x := 20) rfl rfl ?_
            refine x_iload (x := 63) rfl rfl ?_
            refine y_iadd (v := 83) rfl (by decide) ?_
            refine x_iconst (v := 0) rfl ki_0 ?_
            refine y_iast (N := 50660) 83 rfl (F.1 126 (100, 50660) rfl rfl) rfl (jinb_of (by decide)) (by decide) ?_
            refine x_iinc (x := 63) (v := 64) (ls' := [(9, .int 64), (8, .int 20), (7, .int 0), (6, .int 1), (0, .ref 125), (1, .int a1), (2, .int a2), (3, .int a3), (4, .int a4), (5, .int a5)]) rfl rfl (by decide) rfl rfl ?_
            refine x_goto (tgt := 117) rfl rfl ?_
            refine x_iload (x := 64) rfl rfl ?_
            refine x_bipush (v := 90) rfl kb_90 ?_
            refine x_icge (tgt := 141) rfl rfl (br_f (by decide) ?_)
            refine x_aloadn (x := 125) rfl rfl ?_
            refine x_getR (b := 126) 12 2 rfl f_12_8 rfl (congrArg Prod.fst (F.1 125 (12, 92) rfl rfl)) (F.2.1 16002 126 rfl rfl) ?_
            refine x_iload (x := 20) rfl rfl ?_
            refine x_iload (x := 64) rfl rfl ?_
            refine y_iadd (v := 84) rfl (by decide) ?_
            refine x_iconst (v := 0) rfl ki_0 ?_
            refine y_iast (N := 50660) 84 rfl (F.1 126 (100, 50660) rfl rfl) rfl (jinb_of (by decide)) (by decide) ?_
            refine x_iinc (x := 64) (v := 65) (ls' := [(9, .int 65), (8, .int 20), (7, .int 0), (6, .int 1), (0, .ref 125), (1, .int a1), (2, .int a2), (3, .int a3), (4, .int a4), (5, .int a5)]) rfl rfl (by decide) rfl rfl ?_
            refine x_goto (tgt := 117) rfl rfl ?_
            refine x_iload (x := 65) rfl rfl ?_
            refine x_bipush (v := 90) rfl kb_90 ?_
            refine x_icge (tgt := 141) rfl rfl (br_f (by decide) ?_)
            refine x_aloadn (x := 125) rfl rfl ?_
            refine x_getR (b := 126) 12 2 rfl f_12_8 rfl (congrArg Prod.fst (F.1 125 (12, 92) rfl rfl)) (F.2.1 16002 126 rfl rfl) ?_
            refine x_iload (x := 20) rfl rfl ?_
            refine x_iload (x := 65) rfl rfl ?_
            refine y_iadd (v := 85) rfl (by decide) ?_
            refine x_iconst (v := 0) rfl ki_0 ?_
            refine y_iast (N := 50660) 85 rfl (F.1 126 (100, 50660) rfl rfl) rfl (jinb_of (by decide)) (by decide) ?_
            refine x_iinc (x := 65) (v := 66) (ls' := [(9, .int 66), (8, .int 20), (7, .int 0), (6, .int 1), (0, .ref 125), (1, .int a1), (2, .int a2), (3, .int a3), (4, .int a4), (5, .int a5)]) rfl rfl (by decide) rfl rfl ?_
            refine x_goto (tgt := 117) rfl rfl ?_
            refine x_iload (x := 66) rfl rfl ?_
            refine x_bipush (v := 90) rfl kb_90 ?_
            refine x_icge (tgt := 141) rfl rfl (br_f (by decide) ?_)
            refine x_aloadn (x := 125) rfl rfl ?_
            refine x_getR (b := 126) 12 2 rfl f_12_8 rfl (congrArg Prod.fst (F.1 125 (12, 92) rfl rfl)) (F.2.1 16002 126 rfl rfl) ?_
            refine x_iload (x := 20) rfl rfl ?_
            refine x_iload (x := 66) rfl rfl ?_
            refine y_iadd (v := 86) rfl (by decide) ?_
            refine x_iconst (v := 0) rfl ki_0 ?_
            refine y_iast (N := 50660) 86 rfl (F.1 126 (100, 50660) rfl rfl) rfl (jinb_of (by decide)) (by decide) ?_
            refine x_iinc (x := 66) (v := 67) (ls' := [(9, .int 67), (8, .int 20), (7, .int 0), (6, .int 1), (0, .ref 125), (1, .int a1), (2, .int a2), (3, .int a3), (4, .int a4), (5, .int a5)]) rfl rfl (by decide) rfl rfl ?_
            refine x_goto (tgt := 117) rfl rfl ?_
            refine x_iload (x := 67) rfl rfl ?_
            refine x_bipush (v := 90) rfl kb_90 ?_
            refine x_icge (tgt := 141) rfl rfl (br_f (by decide) ?_)
            refine x_aloadn (x := 125) rfl rfl ?_
            refine x_getR (b := 126) 12 2 rfl f_12_8 rfl (congrArg Prod.fst (F.1 125 (12, 92) rfl rfl)) (F.2.1 16002 126 rfl rfl) ?_
            refine x_iload (x := 20) rfl rfl ?_
            refine x_iload (x := 67) rfl rfl ?_
            refine y_iadd (v := 87) rfl (by decide) ?_
            refine x_iconst (v := 0) rfl ki_0 ?_
            refine y_iast (N := 50660) 87 rfl (F.1 126 (100, 50660) rfl rfl) rfl (jinb_of (by decide)) (by decide) ?_
            refine x_iinc (x := 67) (v := 68) (ls' := [(9, .int 68), (8, .int 20), (7, .int 0), (6, .int 1), (0, .ref 125), (1, .int a1), (2, .int a2), (3, .int a3), (4, .int a4), (5, .int a5)]) rfl rfl (by decide) rfl rfl ?_
            refine x_goto (tgt := 117) rfl rfl ?_
            refine x_iload (x := 68) rfl rfl ?_
            refine x_bipush (v := 90) rfl kb_90 ?_
            refine x_icge (tgt := 141) rfl rfl (br_f (by decide) ?_)
            refine x_aloadn (x := 125) rfl rfl ?_
            refine x_getR (b := 126) 12 2 rfl f_12_8 rfl (congrArg Prod.fst (F.1 125 (12, 92) rfl rfl)) (F.2.1 16002 126 rfl rfl) ?_
            refine x_iload (x := 20) rfl rfl ?_
            refine x_iload (x := 68) rfl rfl ?_
            refine y_iadd (v := 88) rfl (by decide) ?_
            refine x_iconst (v := 0) rfl ki_0 ?_
            refine y_iast (N := 50660) 88 rfl (F.1 126 (100, 50660) rfl rfl) rfl (jinb_of (by decide)) (by decide) ?_
            refine x_iinc (x := 68) (v := 69) (ls' := [(9, .int 69), (8, .int 20), (7, .int 0), (6, .int 1), (0, .ref 125), (1, .int a1), (2, .int a2), (3, .int a3), (4, .int a4), (5, .int a5)]) rfl rfl (by decide) rfl rfl ?_
            refine x_goto (tgt := 117) rfl rfl ?_
            refine x_iload (x := 69) rfl rfl ?_
            refine x_bipush (v := 90) rfl kb_90 ?_
            refine x_icge (tgt := 141) rfl rfl (br_f (by decide) ?_)
            refine x_aloadn (x := 125) rfl rfl ?_
            refine x_getR (b := 126) 12 2 rfl f_12_8 rfl (congrArg Prod.fst (F.1 125 (12, 92) rfl rfl)) (F.2.1 16002 126 rfl rfl) ?_
            refine x_iload (x := 20) rfl rfl ?_
            refine x_iload (x := 69) rfl rfl ?_
            refine y_iadd (v := 89) rfl (by decide) ?_
            refine x_iconst (v := 0) rfl ki_0 ?_
            refine y_iast (N := 50660) 89 rfl (F.1 126 (100, 50660) rfl rfl) rfl (jinb_of (by decide)) (by decide) ?_
            refine x_iinc (x := 69) (v := 70) (ls' := [(9, .int 70), (8, .int 20), (7, .int 0), (6, .int 1), (0, .ref 125), (1, .int a1), (2, .int a2), (3, .int a3), (4, .int a4), (5, .int a5)]) rfl rfl (by decide) rfl rfl ?_
            refine x_goto (tgt := 117) rfl rfl ?_
            refine x_iload (x := 70) rfl rfl ?_
            refine x_bipush (v := 90) rfl kb_90 ?_
            refine x_icge (tgt := 141) rfl rfl (br_f (by decide) ?_)
            refine x_aloadn (x := 125) rfl rfl ?_
            refine x_getR (b := 126) 12 2 rfl f_12_8 rfl (congrArg Prod.fst (F.1 125 (12, 92) rfl rfl)) (F.2.1 16002 126 rfl rfl) ?_
            refine x_iload (x := 20) rfl rfl ?_
            refine x_iload (x := 70) rfl rfl ?_
            refine y_iadd (v := 90) rfl (by decide) ?_
            refine x_iconst (v := 0) rfl ki_0 ?_
            refine y_iast (N := 50660) 90 rfl (F.1 126 (100, 50660) rfl rfl) rfl (jinb_of (by decide)) (by decide) ?_
            refine x_iinc (x := 70) (v := 71) (ls' := [(9, .int 71), (8, .int 20), (7, .int 0), (6, .int 1), (0, .ref 125), (1, .int a1), (2, .int a2), (3, .int a3), (4, .int a4), (5, .int a5)]) rfl rfl (by decide) rfl rfl ?_
            refine x_goto (tgt := 117) rfl rfl ?_
            refine x_iload (x := 71) rfl rfl ?_
            refine x_bipush (v := 90) rfl kb_90 ?_
            refine x_icge (tgt := 141) rfl rfl (br_f (by decide) ?_)
            refine x_aloadn (x := 125) rfl rfl ?_
            refine x_getR (b := 126) 12 2 rfl f_12_8 rfl (congrArg Prod.fst (F.1 125 (12, 92) rfl rfl)) (F.2.1 16002 126 rfl rfl) ?_
            refine x_iload (x := 20) rfl rfl ?_
            refine x_iload (x := 71) rfl rfl ?_
            refine y_iadd (v := 91) rfl (by decide) ?_
            refine x_iconst (v := 0) rfl ki_0 ?_
            refine y_iast (N := 50660) 91 rfl (F.1 126 (100, 50660) rfl rfl) rfl (jinb_of (by decide)) (by decide) ?_
            refine x_iinc (x := 71) (v := 72) (ls' := [(9, .int 72), (8, .int 20), (7, .int 0), (6, .int 1), (0, .ref 125), (1, .int a1), (2, .int a2), (3, .int a3), (4, .int a4), (5, .int a5)]) rfl rfl (by decide) rfl rfl ?_
            refine x_goto (tgt := 117) rfl rfl ?_
            refine x_iload (x := 72) rfl rfl ?_
            refine x_bipush (v := 90) rfl kb_90 ?_
            refine x_icge (tgt := 141) rfl rfl (br_f (by decide) ?_)
            refine x_aloadn (x := 125) rfl rfl ?_
            refine x_getR (b := 126) 12 2 rfl f_12_8 rfl (congrArg Prod.fst (F.1 125 (12, 92) rfl rfl)) (F.2.1 16002 126 rfl rfl) ?_
            refine x_iload (x := 20) rfl rfl ?_
            refine x_iload (x := 72) rfl rfl ?_
            refine y_iadd (v := 92) rfl (by decide) ?_
            refine x_iconst (v := 0) rfl ki_0 ?_
            refine y_iast (N := 50660) 92 rfl (F.1 126 (100, 50660) rfl rfl) rfl (jinb_of (by decide)) (by decide) ?_
            refine x_iinc (x := 72) (v := 73) (ls' := [(9, .int 73), (8, .int 20), (7, .int 0), (6, .int 1), (0, .ref 125), (1, .int a1), (2, .int a2), (3, .int a3), (4, .int a4), (5, .int a5)]) rfl rfl (by decide) rfl rfl ?_
            refine x_goto (tgt := 117) rfl rfl ?_
            refine x_iload (x := 73) rfl rfl ?_
            refine x_bipush (v := 90) rfl kb_90 ?_
            refine x_icge (tgt := 141) rfl rfl (br_f (by decide) ?_)
            refine x_aloadn (x := 125) rfl rfl ?_
            refine x_getR (b := 126) 12 2 rfl f_12_8 rfl (congrArg Prod.fst (F.1 125 (12, 92) rfl rfl)) (F.2.1 16002 126 rfl rfl) ?_
            refine x_iload (x := 20) rfl rfl ?_
            refine x_iload (x := 73) rfl rfl ?_
            refine y_iadd (v := 93) rfl (by decide) ?_
            refine x_iconst (v := 0) rfl ki_0 ?_
            refine y_iast (N := 50660) 93 rfl (F.1 126 (100, 50660) rfl rfl) rfl (jinb_of (by decide)) (by decide) ?_
            refine x_iinc (x := 73) (v := 74) (ls' := [(9, .int 74), (8, .int 20), (7, .int 0), (6, .int 1), (0, .ref 125), (1, .int a1), (2, .int a2), (3, .int a3), (4, .int a4), (5, .int a5)]) rfl rfl (by decide) rfl rfl ?_
            refine x_goto (tgt := 117) rfl rfl ?_
            refine x_iload (x := 74) rfl rfl ?_
            refine x_bipush (v := 90) rfl kb_90 ?_
            refine x_icge (tgt := 141) rfl rfl (br_f (by decide) ?_)
            refine x_aloadn (x := 125) rfl rfl ?_
            refine x_getR (b := 126) 12 2 rfl f_12_8 rfl (congrArg Prod.fst (F.1 125 (12, 92) rfl rfl)) (F.2.1 16002 126 rfl rfl) ?_
            refine x_iload (x := 20) rfl rfl ?_
            refine x_iload (x := 74) rfl rfl ?_
            refine y_iadd (v := 94) rfl (by decide) ?_
            refine x_iconst (v := 0) rfl ki_0 ?_
            refine y_iast (N := 50660) 94 rfl (F.1 126 (100, 50660) rfl rfl) rfl (jinb_of (by decide)) (by decide) ?_
            refine x_iinc (x := 74) (v := 75) (ls' := [(9, .int 75), (8, .int 20), (7, .int 0), (6, .int 1), (0, .ref 125), (1, .int a1), (2, .int a2), (3, .int a3), (4, .int a4), (5, .int a5)]) rfl rfl (by decide) rfl rfl ?_
            refine x_goto (tgt := 117) rfl rfl ?_
            refine x_iload (x := 75) rfl rfl ?_
            refine x_bipush (v := 90) rfl kb_90 ?_
            refine x_icge (tgt := 141) rfl rfl (br_f (by decide) ?_)
            refine x_aloadn (x := 125) rfl rfl ?_
            refine x_getR (b := 126) 12 2 rfl f_12_8 rfl (congrArg Prod.fst (F.1 125 (12, 92) rfl rfl)) (F.2.1 16002 126 rfl rfl) ?_
            refine x_iload (x := 20) rfl rfl ?_
            refine x_iload (x := 75) rfl rfl ?_
            refine y_iadd (v := 95) rfl (by decide) ?_
            refine x_iconst (v := 0) rfl ki_0 ?_
            refine y_iast (N := 50660) 95 rfl (F.1 126 (100, 50660) rfl rfl) rfl (jinb_of (by decide)) (by decide) ?_
            refine x_iinc (x := 75) (v := 76) (ls' := [(9, .int 76), (8, .int 20), (7, .int 0), (6, .int 1), (0, .ref 125), (1, .int a1), (2, .int a2), (3, .int a3), (4, .int a4), (5, .int a5)]) rfl rfl (by decide) rfl rfl ?_
            refine x_goto (tgt := 117) rfl rfl ?_
            refine x_iload (x := 76) rfl rfl ?_
            refine x_bipush (v := 90) rfl kb_90 ?_
            refine x_icge (tgt := 141) rfl rfl (br_f (by decide) ?_)
            refine x_aloadn (x := 125) rfl rfl ?_
            refine x_getR (b := 126) 12 2 rfl f_12_8 rfl (congrArg Prod.fst (F.1 125 (12, 92) rfl rfl)) (F.2.1 16002 126 rfl rfl) ?_
            refine x_iload (x := 20) rfl rfl ?_
            refine x_iload (x := 76) rfl rfl ?_
            refine y_iadd (v := 96) rfl (by decide) ?_
            refine x_iconst (v := 0) rfl ki_0 ?_
            refine y_iast (N := 50660) 96 rfl (F.1 126 (100, 50660) rfl rfl) rfl (jinb_of (by decide)) (by decide) ?_
            refine x_iinc (x := 76) (v := 77) (ls' := [(9, .int 77), (8, .int 20), (7, .int 0), (6, .int 1), (0, .ref 125), (1, .int a1), (2, .int a2), (3, .int a3), (4, .int a4), (5, .int a5)]) rfl rfl (by decide) rfl rfl ?_
            refine x_goto (tgt := 117) rfl rfl ?_
            refine x_iload (x := 77) rfl rfl ?_
            refine x_bipush (v := 90) rfl kb_90 ?_
            refine x_icge (tgt := 141) rfl rfl (br_f (by decide) ?_)
            refine x_aloadn (x := 125) rfl rfl ?_
            refine x_getR (b := 126) 12 2 rfl f_12_8 rfl (congrArg Prod.fst (F.1 125 (12, 92) rfl rfl)) (F.2.1 16002 126 rfl rfl) ?_
            refine x_iload (x := 20) rfl rfl ?_
            refine x_iload (x := 77) rfl rfl ?_
            refine y_iadd (v := 97) rfl (by decide) ?_
            refine x_iconst (v := 0) rfl ki_0 ?_
            refine y_iast (N := 50660) 97 rfl (F.1 126 (100, 50660) rfl rfl) rfl (jinb_of (by decide)) (by decide) ?_
            refine x_iinc (x := 77) (v := 78) (ls' := [(9, .int 78), (8, .int 20), (7, .int 0), (6, .int 1), (0, .ref 125), (1, .int a1), (2, .int a2), (3, .int a3), (4, .int a4), (5, .int a5)]) rfl rfl (by decide) rfl rfl ?_
            refine x_goto (tgt := 117) rfl rfl ?_
            refine x_iload (x := 78) rfl rfl ?_
            refine x_bipush (v := 90) rfl kb_90 ?_
            refine x_icge (tgt := 141) rfl rfl (br_f (by decide) ?_)
            refine x_aloadn (x := 125) rfl rfl ?_
            refine x_getR (b := 126) 12 2 rfl f_12_8 rfl (congrArg Prod.fst (F.1 125 (12, 92) rfl rfl)) (F.2.1 16002 126 rfl rfl) ?_
            refine x_iload (x := 20) rfl rfl ?_
            refine x_iload (x := 78) rfl rfl ?_
            refine y_iadd (v := 98) rfl (by decide) ?_
            refine x_iconst (v := 0) rfl ki_0 ?_
            refine y_iast (N := 50660) 98 rfl (F.1 126 (100, 50660) rfl rfl) rfl (jinb_of (by decide)) (by decide) ?_
            refine x_iinc (x := 78) (v := 79) (ls' := [(9, .int 79), (8, .int 20), (7, .int 0), (6, .int 1), (0, .ref 125), (1, .int a1), (2, .int a2), (3, .int a3), (4, .int a4), (5, .int a5)]) rfl rfl (by decide) rfl rfl ?_
            refine x_goto (tgt := 117) rfl rfl ?_
            refine x_iload (x := 79) rfl rfl ?_
            refine x_bipush (v := 90) rfl kb_90 ?_
            refine x_icge (tgt := 141) rfl rfl (br_f (by decide) ?_)
            refine x_aloadn (x := 125) rfl rfl ?_
            refine x_getR (b := 126) 12 2 rfl f_12_8 rfl (congrArg Prod.fst (F.1 125 (12, 92) rfl rfl)) (F.2.1 16002 126 rfl rfl) ?_
            refine x_iload (x := 20) rfl rfl ?_
            refine x_iload (x := 79) rfl rfl ?_
            refine y_iadd (v := 99) rfl (by decide) ?_
            refine x_iconst (v := 0) rfl ki_0 ?_
            refine y_iast (N := 50660) 99 rfl (F.1 126 (100, 50660) rfl rfl) rfl (jinb_of (by decide)) (by decide) ?_
            refine x_iinc (x := 79) (v := 80) (ls' := [(9, .int 80), (8, .int 20), (7, .int 0), (6, .int 1), (0, .ref 125), (1, .int a1), (2, .int a2), (3, .int a3), (4, .int a4), (5, .int a5)]) rfl rfl (by decide) rfl rfl ?_
            refine x_goto (tgt := 117) rfl rfl ?_
            refine x_iload (x := 80) rfl rfl ?_
            refine x_bipush (v := 90) rfl kb_90 ?_
            refine x_icge (tgt := 141) rfl rfl (br_f (by decide) ?_)
            refine x_aloadn (x := 125) rfl rfl ?_
            refine x_getR (b := 126) 12 2 rfl f_12_8 rfl (congrArg Prod.fst (F.1 125 (12, 92) rfl rfl)) (F.2.1 16002 126 rfl rfl) ?_
            refine x_iload (x := 20) rfl rfl ?_
            refine x_iload (x := 80) rfl rfl ?_
            refine y_iadd (v := 100) rfl (by decide) ?_
            refine x_iconst (v := 0) rfl ki_0 ?_
            refine y_iast (N := 50660) 100 rfl (F.1 126 (100, 50660) rfl rfl) rfl (jinb_of (by decide)) (by decide) ?_
            refine x_iinc (x := 80) (v := 81) (ls' := [(9, .int 81), (8, .int 20), (7, .int 0), (6, .int 1), (0, .ref 125), (1, .int a1), (2, .int a2), (3, .int a3), (4, .int a4), (5, .int a5)]) rfl rfl (by decide) rfl rfl ?_
            refine x_goto (tgt := 117) rfl rfl ?_
            refine x_iload (x := 81) rfl rfl ?_
            refine x_bipush (v := 90) rfl kb_90 ?_
            refine x_icge (tgt := 141) rfl rfl (br_f (by decide) ?_)
            refine x_aloadn (x := 125) rfl rfl ?_
            refine x_getR (b := 126) 12 2 rfl f_12_8 rfl (congrArg Prod.fst (F.1 125 (12, 92) rfl rfl)) (F.2.1 16002 126 rfl rfl) ?_
            refine x_iload (x := 20) rfl rfl ?_
            refine x_iload (x := 81) rfl rfl ?_
            refine y_iadd (v := 101) rfl (by decide) ?_
            refine x_iconst (v := 0) rfl ki_0 ?_
            refine y_iast (N := 50660) 101 rfl (F.1 126 (100, 50660) rfl rfl) rfl (jinb_of (by decide)) (by decide) ?_
            refine x_iinc (x := 81) (v := 82) (ls' := [(9, .int 82), (8, .int 20), (7, .int 0), (6, .int 1), (0, .ref 125), (1, .int a1), (2, .int a2), (3, .int a3), (4, .int a4), (5, .int a5)]) rfl rfl (by decide) rfl rfl ?_
            refine x_goto (tgt := 117) rfl rfl ?_
            refine x_iload (x := 82) rfl rfl ?_
            refine x_bipush (v := 90) rfl kb_90 ?_
            refine x_icge (tgt := 141) rfl rfl (br_f (by decide) ?_)
            refine x_aloadn (x := 125) rfl rfl ?_
            refine x_getR (b := 126) 12 2 rfl f_12_8 rfl (congrArg Prod.fst (F.1 125 (12, 92) rfl rfl)) (F.2.1 16002 126 rfl rfl) ?_
            refine x_iload (x := 20) rfl rfl ?_
            refine x_iload (x := 82) rfl rfl ?_
            refine y_iadd (v := 102) rfl (by decide) ?_
            refine x_iconst (v := 0) rfl ki_0 ?_
            refine y_iast (N := 50660) 102 rfl (F.1 126 (100, 50660) rfl rfl) rfl (jinb_of (by decide)) (by decide) ?_
            refine x_iinc (x := 82) (v := 83) (ls' := [(9, .int 83), (8, .int 20), (7, .int 0), (6, .int 1), (0, .ref 125), (1, .int a1), (2, .int a2), (3, .int a3), (4, .int a4), (5, .int a5)]) rfl rfl (by decide) rfl rfl ?_
            refine x_goto (tgt := 117) rfl rfl ?_
            refine x_iload (x := 83) rfl rfl ?_
            refine x_bipush (v := 90) rfl kb_90 ?_
            refine x_icge (tgt := 141) rfl rfl (br_f (by decide) ?_)
            refine x_aloadn (x := 125) rfl rfl ?_
            refine x_getR (b := 126) 12 2 rfl f_12_8 rfl (congrArg Prod.fst (F.1 125 (12, 92) rfl rfl)) (F.2.1 16002 126 rfl rfl) ?_
            refine x_iload (x := 20) rfl rfl ?_
            refine x_iload (x := 83) rfl rfl ?_
            refine y_iadd (v := 103) rfl (by decide) ?_
            refine x_iconst (v := 0) rfl ki_0 ?_
            refine y_iast (N := 50660) 103 rfl (F.1 126 (100, 50660) rfl rfl) rfl (jinb_of (by decide)) (by decide) ?_
            refine x_iinc (x := 83) (v := 84) (ls' := [(9, .int 84), (8, .int 20), (7, .int 0), (6, .int 1), (0, .ref 125), (1, .int a1), (2, .int a2), (3, .int a3), (4, .int a4), (5, .int a5)]) rfl rfl (by decide) rfl rfl ?_
            refine x_goto (tgt := 117) rfl rfl ?_
            refine x_iload (x := 84) rfl rfl ?_
            refine x_bipush (v := 90) rfl kb_90 ?_
            refine x_icge (tgt := 141) rfl rfl (br_f (by decide) ?_)
            refine x_aloadn (x := 125) rfl rfl ?_
            refine x_getR (b := 126) 12 2 rfl f_12_8 rfl (congrArg Prod.fst (F.1 125 (12, 92) rfl rfl)) (F.2.1 16002 126 rfl rfl) ?_
            refine x_iload (x := 20) rfl rfl ?_
            refine x_iload (x := 84) rfl rfl ?_
            refine y_iadd (v := 104) rfl (by decide) ?_
            refine x_iconst (v := 0) rfl ki_0 ?_
            refine y_iast (N := 50660) 104 rfl (F.1 126 (100, 50660) rfl rfl) rfl (jinb_of (by decide)) (by decide) ?_
            refine x_iinc (x := 84) (v := 85) (ls' := [(9, .int 85), (8, .int 20), (7, .int 0), (6, .int 1), (0, .ref 125), (1, .int a1), (2, .int a2), (3, .int a3), (4, .int a4), (5, .int a5)]) rfl rfl (by decide) rfl rfl ?_
            refine x_goto (tgt := 117) rfl rfl ?_
            refine x_iload (x := 85) rfl rfl ?_
            refine x_bipush (v := 90) rfl kb_90 ?_
            refine x_icge (tgt := 141) rfl rfl (br_f (by decide) ?_)
            refine x_aloadn (x := 125) rfl rfl ?_
            refine x_getR (b := 126) 12 2 rfl f_12_8 rfl (congrArg Prod.fst (F.1 125 (12, 92) rfl rfl)) (F.2.1 16002 126 rfl rfl) ?_
            refine x_iload (x := 20) rfl rfl ?_
            refine x_iload (x := 85) rfl rfl ?_
            refine y_iadd (v := 105) rfl (by decide) ?_
            refine x_iconst (v := 0) rfl ki_0 ?_
            refine y_iast (N := 50660) 105 rfl (F.1 126 (100, 50660) rfl rfl) rfl (jinb_of (by decide)) (by decide) ?_
            refine x_iinc (x := 85) (v := 86) (ls' := [(9, .int 86), (8, .int 20), (7, .int 0), (6, .int 1), (0, .ref 125), (1, .int a1), (2, .int a2), (3, .int a3), (4, .int a4), (5, .int a5)]) rfl rfl (by decide) rfl rfl ?_
            refine x_goto (tgt := 117) rfl rfl ?_
            refine x_iload (x := 86) rfl rfl ?_
            refine x_bipush (v := 90) rfl kb_90 ?_
            refine x_icge (tgt := 141) rfl rfl (br_f (by decide) ?_)
            refine x_aloadn (x := 125) rfl rfl ?_
            refine x_getR (b := 126) 12 2 rfl f_12_8 rfl (congrArg Prod.fst (F.1 125 (12, 92) rfl rfl)) (F.2.1 16002 126 rfl rfl) ?_
            refine x_iload (x := 20) rfl rfl ?_
            refine x_iload (x := 86) rfl rfl ?_
            refine y_iadd (v := 106) rfl (by decide) ?_
            refine x_iconst (v := 0) rfl ki_0 ?_
            refine y_iast (N := 50660) 106 rfl (F.1 126 (100, 50660) rfl rfl) rfl (jinb_of (by decide)) (by decide) ?_
            refine x_iinc (x := 86) (v := 87) (ls' := [(9, .int 87), (8, .int 20), (7, .int 0), (6, .int 1), (0, .ref 125), (1, .int a1), (2, .int a2), (3, .int a3), (4, .int a4), (5, .int a5)]) rfl rfl (by decide) rfl rfl ?_
            refine x_goto (tgt := 117) rfl rfl ?_
            refine x_iload (x := 87) rfl rfl ?_
            refine x_bipush (v := 90) rfl kb_90 ?_
            refine x_icge (tgt := 141) rfl rfl (br_f (by decide) ?_)
            refine x_aloadn (x := 125) rfl rfl ?_
            refine x_getR (b := 126) 12 2 rfl f_12_8 rfl (congrArg Prod.fst (F.1 125 (12, 92) rfl rfl)) (F.2.1 16002 126 rfl rfl) ?_
            refine x_iload (x := 20) rfl rfl ?_
            refine x_iload (x := 87) rfl rfl ?_
            refine y_iadd (v := 107) rfl (by decide) ?_
            refine x_iconst (v := 0) rfl ki_0 ?_
            refine y_iast (N := 50660) 107 rfl (F.1 126 (100, 50660) rfl rfl) rfl (jinb_of (by decide)) (by decide) ?_
            refine x_iinc (x := 87) (v := 88) (ls' := [(9, .int 88), (8, .int 20), (7, .int 0), (6, .int 1), (0, .ref 125), (1, .int a1), (2, .int a2), (3, .int a3), (4, .int a4), (5, .int a5)]) rfl rfl (by decide) rfl rfl ?_
            refine x_goto (tgt := 117) rfl rfl ?_
            refine x_iload (x := 88) rfl rfl ?_
            refine x_bipush (v := 90) rfl kb_90 ?_
            refine x_icge (tgt := 141) rfl rfl (br_f (by decide) ?_)
            refine x_aloadn (x := 125) rfl rfl ?_
            refine x_getR (b := 126) 12 2 rfl f_12_8 rfl (congrArg Prod.fst (F.1 125 (12, 92) rfl rfl)) (F.2.1 16002 126 rfl rfl) ?_
            refine x_iload (x := 20) rfl rfl ?_
            refine x_iload (x := 88) rfl rfl ?_
            refine y_iadd (v := 108) rfl (by decide) ?_
            refine x_iconst (v := 0) rfl ki_0 ?_
            refine y_iast (N := 50660) 108 rfl (F.1 126 (100, 50660) rfl rfl) rfl (jinb_of (by decide)) (by decide) ?_
            refine x_iinc (x := 88) (v := 89) (ls' := [(9, .int 89), (8, .int 20), (7, .int 0), (6, .int 1), (0, .ref 125), (1, .int a1), (2, .int a2), (3, .int a3), (4, .int a4), (5, .int a5)]) rfl rfl (by decide) rfl rfl ?_
            refine x_goto (tgt := 117) rfl rfl ?_
            refine x_iload (x := 89) rfl rfl ?_
            refine x_bipush (v := 90) rfl kb_90 ?_
            refine x_icge (tgt := 141) rfl rfl (br_f (by decide) ?_)
            refine x_aloadn (x := 125) rfl rfl ?_
            refine x_getR (b := 126) 12 2 rfl f_12_8 rfl (congrArg Prod.fst (F.1 125 (12, 92) rfl rfl)) (F.2.1 16002 126 rfl rfl) ?_
            refine x_iload (x := 20) rfl rfl ?_
            refine x_iload (x := 89) rfl rfl ?_
            refine y_iadd (v := 109) rfl (by decide) ?_
            refine x_iconst (v := 0) rfl ki_0 ?_
            refine y_iast (N := 50660) 109 rfl (F.1 126 (100, 50660) rfl rfl) rfl (jinb_of (by decide)) (by decide) ?_
            refine x_iinc (x := 89) (v := 90) (ls' := [(9, .int 90), (8, .int 20), (7, .int 0), (6, .int 1), (0, .ref 125), (1, .int a1), (2, .int a2), (3, .int a3), (4, .int a4), (5, .int a5)]) rfl rfl (by decide) rfl rfl ?_
            refine x_goto (tgt := 117) rfl rfl ?_
            refine x_iload (x := 90) rfl rfl ?_
            refine x_bipush (v := 90) rfl kb_90 ?_
            refine x_icge (tgt := 141) rfl rfl (br_t (by decide) ?_)
            refine x_aloadn (x := 125) rfl rfl ?_
            refine x_inv (N := m_X12_begin) (As := []) (b := 125) (st := []) (d' := 99) (mc := 0) (ms := 0) (host := "") 12 rfl t_X12_begin ⟨Or.inl q_12_280, i_X12_begin.1, i_X12_begin.2⟩ ⟨by decide, rfl⟩ (congrArg Prod.fst (F.1 125 (12, 92) rfl rfl)) rfl (by decide) rfl rfl ⟨by decide, by decide⟩ (jC.of rfl k_X12_begin rfl ?_)
            show jX m_X12_begin 99 0 0 0 [(0, .ref 125)] [] _ 0 0 _
            refine x_aloadn (x := 125) rfl rfl ?_
            refine x_iconst (v := 0) rfl ki_0 ?_
            refine x_putI 12 10 rfl f_12_211 rfl (jfin_no TX12 RX12 92 rfl rfl) (congrArg Prod.fst (F.1 125 (12, 92) rfl rfl)) rfl ?_
            refine x_aloadn (x := 125) rfl rfl ?_
            refine x_iconst (v := 0) rfl ki_0 ?_
            refine x_putZ 12 14 rfl f_12_214 rfl (jfin_no TX12 RX12 92 rfl rfl) (congrArg Prod.fst (F.1 125 (12, 92) rfl rfl)) rfl (by decide) ?_
            refine x_aloadn (x := 125) rfl rfl ?_
            refine x_iconst (v := (-1)) rfl ki_m1 ?_
            refine x_putI 12 13 rfl f_12_32 rfl (jfin_no TX12 RX12 92 rfl rfl) (congrArg Prod.fst (F.1 125 (12, 92) rfl rfl)) rfl ?_
            refine x_aloadn (x := 125) rfl rfl ?_
            refine x_inv (N := m_X12_next) (As := []) (b := 125) (st := []) (d' := 98) (mc := 0) (ms := 0) (host := "") 12 rfl t_X12_next ⟨Or.inl q_12_218, i_X12_next.1, i_X12_next.2⟩ ⟨by decide, rfl⟩ (congrArg Prod.fst (F.1 125 (12, 92) rfl rfl)) rfl (by decide) rfl rfl ⟨by decide, by decide⟩ (jC.of rfl k_X12_next rfl ?_)
            show jX m_X12_next 98 0 0 0 [(0, .ref 125)] [] _ 0 0 _
            refine x_aloadn (x := 125) rfl rfl ?_
            refine x_aloadn (x := 125) rfl rfl ?_
            refine y_getI (v := 0) 12 10 rfl f_12_211 rfl (congrArg Prod.fst (F.1 125 (12, 92) rfl rfl)) rfl ?_
            refine x_putI 12 9 rfl f_12_221 rfl (jfin_no TX12 RX12 92 rfl rfl) (congrArg Prod.fst (F.1 125 (12, 92) rfl rfl)) rfl ?_
            refine x_aloadn (x := 125) rfl rfl ?_
            refine y_getI (v := 0) 12 9 rfl f_12_221 rfl (congrArg Prod.fst (F.1 125 (12, 92) rfl rfl)) rfl ?_
            refine x_aloadn (x := 125) rfl rfl ?_
            refine y_getI (v := 0) 12 8 rfl f_12_201 rfl (congrArg Prod.fst (F.1 125 (12, 92) rfl rfl)) (F.2.2.1 16008 0 rfl rfl) ?_
            refine x_icge (tgt := 46) rfl rfl (br_t (by decide) ?_)
            refine x_aloadn (x := 125) rfl rfl ?_
            refine x_aloadn (x := 125) rfl rfl ?_
            refine y_getI (v := 0) 12 9 rfl f_12_221 rfl (congrArg Prod.fst (F.1 125 (12, 92) rfl rfl)) rfl ?_
            refine x_putI 12 10 rfl f_12_211 rfl (jfin_no TX12 RX12 92 rfl rfl) (congrArg Prod.fst (F.1 125 (12, 92) rfl rfl)) rfl ?_
            refine x_aloadn (x := 125) rfl rfl ?_
            refine x_lconst (v := 0) rfl kl_0 ?_
            refine x_putL 12 12 rfl f_12_224 rfl (jfin_no TX12 RX12 92 rfl rfl) (congrArg Prod.fst (F.1 125 (12, 92) rfl rfl)) rfl ?_
            refine x_aloadn (x := 125) rfl rfl ?_
            refine x_aloadn (x := 125) rfl rfl ?_
            refine y_getI (v := 0) 12 9 rfl f_12_221 rfl (congrArg Prod.fst (F.1 125 (12, 92) rfl rfl)) rfl ?_
            refine x_aloadn (x := 125) rfl rfl ?_
            refine y_getI (v := 0) 12 8 rfl f_12_201 rfl (congrArg Prod.fst (F.1 125 (12, 92) rfl rfl)) (F.2.2.1 16008 0 rfl rfl) ?_
            refine x_icne (tgt := 75) rfl rfl (bn_f (by decide) ?_)
            refine x_iconst (v := 0) rfl ki_0 ?_
            refine x_goto (tgt := 114) rfl rfl ?_
            refine x_putI 12 11 rfl f_12_235 rfl (jfin_no TX12 RX12 92 rfl rfl) (congrArg Prod.fst (F.1 125 (12, 92) rfl rfl)) rfl ?_
            refine x_aloadn (x := 125) rfl rfl ?_
            refine y_getI (v := 0) 12 11 rfl f_12_235 rfl (congrArg Prod.fst (F.1 125 (12, 92) rfl rfl)) rfl ?_
            refine x_iconst (v := 3) rfl ki_3 ?_
            refine x_icne (tgt := 149) rfl rfl (bn_t (by decide) ?_)
            refine x_aloadn (x := 125) rfl rfl ?_
            refine y_getI (v := 0) 12 11 rfl f_12_235 rfl (congrArg Prod.fst (F.1 125 (12, 92) rfl rfl)) rfl ?_
            refine x_iconst (v := 1) rfl ki_1 ?_
            refine x_icne (tgt := 243) rfl rfl (bn_t (by decide) ?_)
            refine x_aloadn (x := 125) rfl rfl ?_
            refine y_getI (v := 0) 12 11 rfl f_12_235 rfl (congrArg Prod.fst (F.1 125 (12, 92) rfl rfl)) rfl ?_
            refine x_iconst (v := 2) rfl ki_2 ?_
            refine x_icne (tgt := 335) rfl rfl (bn_t (by decide) ?_)
            refine x_vret rfl rfl ?_
            show jX m_X12_begin 99 0 0 19 [(0, .ref 125)] [] _ 0 0 _
            refine x_vret rfl rfl ?_
            show jX m_X12_line 100 0 0 145 [(9, .int 90), (8, .int 20), (7, .int 0), (6, .int 1), (0, .ref 125), (1, .int a1), (2, .int a2), (3, .int a3), (4, .int a4), (5, .int a5)] [] _ 0 0 _
            refine x_iconst (v := 0) rfl ki_0 ?_
            refine x_istore (ls' := [(9, .int 0), (8, .int 20), (7, .int 0), (6, .int 1), (0, .ref 125), (1, .int a1), (2, .int a2), (3, .int a3), (4, .int a4), (5, .int a5)]) rfl rfl rfl ?_
            refine x_aloadn (x := 125) rfl rfl ?_
            refine y_getI (v := 0) 12 11 rfl f_12_235 rfl (congrArg Prod.fst (F.1 125 (12, 92) rfl rfl)) rfl ?_
            refine x_ifeq (tgt := 168) rfl rfl (br_t (by decide) ?_)
            refine x_iconst (v := 0) rfl ki_0 ?_
            refine x_istore (ls' := [(10, .int 0), (9, .int 0), (8, .int 20), (7, .int 0), (6, .int 1), (0, .ref 125), (1, .int a1), (2, .int a2), (3, .int a3), (4, .int a4), (5, .int a5)]) rfl rfl rfl ?_
            refine x_iload (x := 0) rfl rfl ?_
            refine x_ifeq (tgt := 250) rfl rfl (br_t (by decide) ?_)
            refine x_aloadn (x := 125) rfl rfl ?_
            refine y_getI (v := 0) 12 14 rfl f_12_214 rfl (congrArg Prod.fst (F.1 125 (12, 92) rfl rfl)) rfl ?_
            refine x_ifne (tgt := 268) rfl rfl (bn_f (by decide) ?_)
            refine x_aloadn (x := 125) rfl rfl ?_
            refine y_getI (v := 0) 12 11 rfl f_12_235 rfl (congrArg Prod.fst (F.1 125 (12, 92) rfl rfl)) rfl ?_
            refine x_ifeq (tgt := 268) rfl rfl (br_t (by decide) ?_)
            refine x_iconst (v := 0) rfl ki_0 ?_
            refine x_istore (ls' := [(11, .int 0), (10, .int 0), (9, .int 0), (8, .int 20), (7, .int 0), (6, .int 1), (0, .ref 125), (1, .int a1), (2, .int a2), (3, .int a3), (4, .int a4), (5, .int a5)]) rfl rfl rfl ?_
            refine x_iload (x := 0) rfl rfl ?_
            refine x_ifeq (tgt := 305) rfl rfl (br_t (by decide) ?_)
            refine x_aloadn (x := 125) rfl rfl ?_
            refine x_iconst (v := 0) rfl ki_0 ?_
            refine x_putI 12 8 rfl f_12_201 rfl (jfin_no TX12 RX12 92 rfl rfl) (congrArg Prod.fst (F.1 125 (12, 92) rfl rfl)) rfl ?_
            refine x_aloadn (x := 125) rfl rfl ?_
            refine y_getI (v := 0) 12 14 rfl f_12_214 rfl (congrArg Prod.fst (F.1 125 (12, 92) rfl rfl)) rfl ?_
            refine x_ifeq (tgt := 324) rfl rfl (br_t (by decide) ?_)
            refine x_aloadn (x := 125) rfl rfl ?_
            refine x_getR (b := 126) 12 2 rfl f_12_8 rfl (congrArg Prod.fst (F.1 125 (12, 92) rfl rfl)) (F.2.1 16002 126 rfl rfl) ?_
            refine x_iload (x := 20) rfl rfl ?_
            refine x_iloadn (x := a1) rfl rfl ?_
            refine y_iast (N := 50660) 20 rfl (F.1 126 (100, 50660) rfl rfl) rfl (jinb_of (by decide)) (by decide) ?_
            refine x_aloadn (x := 125) rfl rfl ?_
            refine x_getR (b := 126) 12 2 rfl f_12_8 rfl (congrArg Prod.fst (F.1 125 (12, 92) rfl rfl)) (F.2.1 16002 126 rfl rfl) ?_
            refine x_iload (x := 20) rfl rfl ?_
            refine x_iconst (v := 1) rfl ki_1 ?_
            refine y_iadd (v := 21) rfl (by decide) ?_
            refine x_iloadn (x := a2) rfl rfl ?_
            refine y_iast (N := 50660) 21 rfl (F.1 126 (100, 50660) rfl rfl) rfl (jinb_of (by decide)) (by decide) ?_
            refine x_aloadn (x := 125) rfl rfl ?_
            refine x_getR (b := 126) 12 2 rfl f_12_8 rfl (congrArg Prod.fst (F.1 125 (12, 92) rfl rfl)) (F.2.1 16002 126 rfl rfl) ?_
            refine x_iload (x := 20) rfl rfl ?_
            refine x_iconst (v := 2) rfl ki_2 ?_
            refine y_iadd (v := 22) rfl (by decide) ?_
            refine x_iloadn (x := a3) rfl rfl ?_
            refine y_iast (N := 50660) 22 rfl (F.1 126 (100, 50660) rfl rfl) rfl (jinb_of (by decide)) (by decide) ?_
            refine x_aloadn (x := 125) rfl rfl ?_
            refine x_getR (b := 126) 12 2 rfl f_12_8 rfl (congrArg Prod.fst (F.1 125 (12, 92) rfl rfl)) (F.2.1 16002 126 rfl rfl) ?_
            refine x_iload (x := 20) rfl rfl ?_
            refine x_iconst (v := 3) rfl ki_3 ?_
            refine y_iadd (v := 23) rfl (by decide) ?_
            refine x_iload (x := a4) rfl rfl ?_
            refine y_iast (N := 50660) 23 rfl (F.1 126 (100, 50660) rfl rfl) rfl (jinb_of (by decide)) (by decide) ?_
            refine x_aloadn (x := 125) rfl rfl ?_
            refine x_getR (b := 126) 12 2 rfl f_12_8 rfl (congrArg Prod.fst (F.1 125 (12, 92) rfl rfl)) (F.2.1 16002 126 rfl rfl) ?_
            refine x_iload (x := 20) rfl rfl ?_
            refine x_iconst (v := 4) rfl ki_4 ?_
            refine y_iadd (v := 24) rfl (by decide) ?_
            refine x_iload (x := a5) rfl rfl ?_
            refine y_iast (N := 50660) 24 rfl (F.1 126 (100, 50660) rfl rfl) rfl (jinb_of (by decide)) (by decide) ?_
            refine x_aloadn (x := 125) rfl rfl ?_
            refine x_getR (b := 126) 12 2 rfl f_12_8 rfl (congrArg Prod.fst (F.1 125 (12, 92) rfl rfl)) (F.2.1 16002 126 rfl rfl) ?_
            refine x_iload (x := 20) rfl rfl ?_
            refine x_iconst (v := 5) rfl ki_5 ?_
            refine y_iadd (v := 25) rfl (by decide) ?_
            refine x_iload (x := 0) rfl rfl ?_
            refine x_ifeq (tgt := 391) rfl rfl (br_t (by decide) ?_)
            refine x_iconst (v := 1) rfl ki_1 ?_
            refine y_iast (N := 50660) 25 rfl (F.1 126 (100, 50660) rfl rfl) rfl (jinb_of (by decide)) (by decide) ?_
            refine x_aloadn (x := 125) rfl rfl ?_
            refine x_getR (b := 126) 12 2 rfl f_12_8 rfl (congrArg Prod.fst (F.1 125 (12, 92) rfl rfl)) (F.2.1 16002 126 rfl rfl) ?_
            refine x_iconst (v := 0) rfl ki_0 ?_
            refine x_dup2 rfl rfl rfl ?_
            refine y_iald (v := 0) (N := 50660) 0 rfl (F.1 126 (100, 50660) rfl rfl) (jinb_of (by decide)) (by decide) (F.2.2.2.1 126 rfl rfl 0).1 ?_
            refine x_iconst (v := 1) rfl ki_1 ?_
            refine y_iadd (v := 1) rfl (by decide) ?_
            refine y_iast (N := 50660) 0 rfl (F.1 126 (100, 50660) rfl rfl) rfl (jinb_of (by decide)) (by decide) ?_
            refine x_aloadn (x := 125) rfl rfl ?_
            refine x_iconst (v := 0) rfl ki_0 ?_
            refine x_iload (x := 0) rfl rfl ?_
            refine x_inv (N := m_X12_thing) (As := [.int 0, .int 0]) (b := 125) (st := []) (d' := 99) (mc := 0) (ms := 0) (host := "") 12 rfl t_X12_thing ⟨Or.inl q_12_289, i_X12_thing.1, i_X12_thing.2⟩ ⟨by decide, rfl⟩ (congrArg Prod.fst (F.1 125 (12, 92) rfl rfl)) rfl (by decide) rfl rfl ⟨by decide, by decide⟩ (jC.of rfl k_X12_thing rfl ?_)
            show jX m_X12_thing 99 0 0 0 [(0, .ref 125), (1, .int 0), (2, .int 0)] [] _ 0 0 _
            refine x_ldc (v := 49920) rfl z_12_194 ?_
            refine x_iconst (v := 2) rfl ki_2 ?_
            refine x_aloadn (x := 125) rfl rfl ?_
            refine x_getR (b := 126) 12 2 rfl f_12_8 rfl (congrArg Prod.fst (F.1 125 (12, 92) rfl rfl)) (F.2.1 16002 126 rfl rfl) ?_
            refine x_bipush (v := 16) rfl kb_16 ?_
            refine y_iald (v := 0) (N := 50660) 16 rfl (F.1 126 (100, 50660) rfl rfl) (jinb_of (by decide)) (by decide) (F.2.2.2.1 126 rfl rfl 16).1 ?_
            refine y_imul (v := 0) rfl (by decide) ?_
            refine y_iadd (v := 49920) rfl (by decide) ?_
            refine x_istoren (ls' := [(3, .int 49920), (0, .ref 125), (1, .int 0), (2, .int 0)]) rfl rfl rfl ?_
            refine x_aloadn (x := 125) rfl rfl ?_
            refine x_getR (b := 126) 12 2 rfl f_12_8 rfl (congrArg Prod.fst (F.1 125 (12, 92) rfl rfl)) (F.2.1 16002 126 rfl rfl) ?_
            refine x_iloadn (x := 49920) rfl rfl ?_
            refine x_iloadn (x := 0) rfl rfl ?_
            refine y_iast (N := 50660) 49920 rfl (F.1 126 (100, 50660) rfl rfl) rfl (jinb_of (by decide)) (by decide) ?_
            refine x_aloadn (x := 125) rfl rfl ?_
            refine x_getR (b := 126) 12 2 rfl f_12_8 rfl (congrArg Prod.fst (F.1 125 (12, 92) rfl rfl)) (F.2.1 16002 126 rfl rfl) ?_
            refine x_iloadn (x := 49920) rfl rfl ?_
            refine x_iconst (v := 1) rfl ki_1 ?_
            refine y_iadd (v := 49921) rfl (by decide) ?_
            refine x_iloadn (x := 0) rfl rfl ?_
            refine y_iast (N := 50660) 49921 rfl (F.1 126 (100, 50660) rfl rfl) rfl (jinb_of (by decide)) (by decide) ?_
            refine x_aloadn (x := 125) rfl rfl ?_
            refine x_getR (b := 126) 12 2 rfl f_12_8 rfl (congrArg Prod.fst (F.1 125 (12, 92) rfl rfl)) (F.2.1 16002 126 rfl rfl) ?_
            refine x_bipush (v := 16) rfl kb_16 ?_
            refine x_dup2 rfl rfl rfl ?_
            refine y_iald (v := 0) (N := 50660) 16 rfl (F.1 126 (100, 50660) rfl rfl) (jinb_of (by decide)) (by decide) (F.2.2.2.1 126 rfl rfl 16).1 ?_
            refine x_iconst (v := 1) rfl ki_1 ?_
            refine y_iadd (v := 1) rfl (by decide) ?_
            refine y_iast (N := 50660) 16 rfl (F.1 126 (100, 50660) rfl rfl) rfl (jinb_of (by decide)) (by decide) ?_
            refine x_vret rfl rfl ?_
            show jX m_X12_line 100 0 0 410 [(11, .int 0), (10, .int 0), (9, .int 0), (8, .int 20), (7, .int 0), (6, .int 1), (0, .ref 125), (1, .int a1), (2, .int a2), (3, .int a3), (4, .int a4), (5, .int a5)] [] _ 0 0 _
            refine x_aloadn (x := 125) rfl rfl ?_
            refine x_iload (x := 0) rfl rfl ?_
            refine x_inv (N := m_X12_told) (As := [.int 0]) (b := 125) (st := []) (d' := 99) (mc := 0) (ms := 0) (host := "") 12 rfl t_X12_told ⟨Or.inl q_12_197, i_X12_told.1, i_X12_told.2⟩ ⟨by decide, rfl⟩ (congrArg Prod.fst (F.1 125 (12, 92) rfl rfl)) rfl (by decide) rfl rfl ⟨by decide, by decide⟩ (jC.of rfl k_X12_told rfl ?_)
            show jX m_X12_told 99 0 0 0 [(0, .ref 125), (1, .int 0)] [] _ 0 0 _
            refine x_aloadn (x := 125) rfl rfl ?_
            refine x_iloadn (x := 0) rfl rfl ?_
            refine x_ifge (tgt := 9) rfl rfl (br_t (by decide) ?_)
            refine x_iconst (v := 0) rfl ki_0 ?_
            refine x_putI 12 1 rfl f_12_183 rfl (jfin_no TX12 RX12 92 rfl rfl) (congrArg Prod.fst (F.1 125 (12, 92) rfl rfl)) rfl ?_
            refine x_iloadn (x := 0) rfl rfl ?_
            refine x_iret rfl rfl ?_
            show jX m_X12_line 100 0 0 416 [(11, .int 0), (10, .int 0), (9, .int 0), (8, .int 20), (7, .int 0), (6, .int 1), (0, .ref 125), (1, .int a1), (2, .int a2), (3, .int a3), (4, .int a4), (5, .int a5)] [.int 0] _ 0 0 _
            refine x_iret rfl rfl ?_
            exact jqe (show sp_line a1 a2 a3 a4 a5 = 0 by unfold sp_line; (repeat' split) <;> first | rfl | (exfalso; omega)) (hQ _ (by repeat (first | exact O | refine jOl_si rfl ?_ | refine jOl_sl rfl ?_ | refine jOl_ci rfl ?_ | refine jOl_cl rfl ?_ | refine jOl_sr rfl ?_)))
def sp_of (a1 a2 : Int32) : Int32 := (-2)
set_option maxRecDepth 100000 in
set_option maxHeartbeats 40000000 in
theorem px_of (a1 a2 : Int32) {xs : Nat → Int32} {h : jH} {Q : Option Value → jH → Prop} (F : jFb 31 h) (O : jOl 7 xs h) (hQ : ∀ h', jFb 125 h' → jOl 7 xs h' → Q (some (.int (sp_of a1 a2))) h') : jC m_X11_of 100 0 0 [.ref 31, .int a1, .int a2] h Q := by
  have FM := jFb_up 125 rfl F
  refine jC.of rfl k_X11_of rfl ?_
  show jX m_X11_of 100 0 0 0 [(0, .ref 31), (1, .int a1), (2, .int a2)] [] _ 0 0 _
  refine x_aloadn (x := 31) rfl rfl ?_
  refine x_iloadn (x := a1) rfl rfl ?_
  refine x_inv (N := m_X11_isLine) (As := [.int a1]) (b := 31) (st := []) (d' := 99) (mc := 0) (ms := 0) (host := "") 11 rfl t_X11_isLine ⟨Or.inl q_11_168, i_X11_isLine.1, i_X11_isLine.2⟩ ⟨by decide, rfl⟩ (congrArg Prod.fst (F.1 31 (11, 13) rfl rfl)) rfl (by decide) rfl rfl ⟨by decide, by decide⟩ (jC.of rfl k_X11_isLine rfl ?_)
  show jX m_X11_isLine 99 0 0 0 [(0, .ref 31), (1, .int a1)] [] _ 0 0 _
  refine x_iloadn (x := a1) rfl rfl ?_
  refine x_iflt (tgt := 22) rfl rfl (ti_lt (show (a1 : Int32).toInt = a1.toInt from rfl) (show (0 : Int32).toInt = 0 by decide) ⟨fun c1 => ?_, fun c1 => ?_⟩)
  ·
    refine x_iconst (v := 0) rfl ki_0 ?_
    refine x_zret rfl rfl (by first | decide | exact jp_01 _) ?_
    show jX m_X11_of 100 0 0 5 [(0, .ref 31), (1, .int a1), (2, .int a2)] [.int 0] _ 0 0 _
    refine x_ifne (tgt := 11) rfl rfl (bn_f (by decide) ?_)
    refine x_bipush (v := (-2)) rfl kb_m2 ?_
    refine x_iret rfl rfl ?_
    exact jqe (show sp_of a1 a2 = (-2) by unfold sp_of; (repeat' split) <;> first | rfl | (exfalso; omega)) (hQ _ (by repeat (first | exact FM | refine jFb_si rfl ?_ | refine jFb_sl rfl ?_ | refine jFb_ci rfl ?_ | refine jFb_cl rfl ?_ | refine jFb_sr rfl ?_)) (by repeat (first | exact O | refine jOl_si rfl ?_ | refine jOl_sl rfl ?_ | refine jOl_ci rfl ?_ | refine jOl_cl rfl ?_ | refine jOl_sr rfl ?_)))
  ·
    refine x_iloadn (x := a1) rfl rfl ?_
    refine x_aloadn (x := 31) rfl rfl ?_
    refine x_getR (b := 32) 11 0 rfl f_11_10 rfl (congrArg Prod.fst (F.1 31 (11, 13) rfl rfl)) (F.2.1 3968 32 rfl rfl) ?_
    refine x_getR (b := 33) 1 0 rfl f_11_126 rfl (congrArg Prod.fst (F.1 32 (1, 20) rfl rfl)) (F.2.1 4096 33 rfl rfl) ?_
    refine y_getI (v := 0) 8 3 rfl f_11_142 rfl (congrArg Prod.fst (F.1 33 (8, 4) rfl rfl)) (F.2.2.1 4227 0 rfl rfl) ?_
    refine x_icge (tgt := 22) rfl rfl (ti_ge (show (a1 : Int32).toInt = a1.toInt from rfl) (show (0 : Int32).toInt = 0 by decide) ⟨fun c2 => ?_, fun c2 => ?_⟩)
    ·
      refine x_iconst (v := 0) rfl ki_0 ?_
      refine x_zret rfl rfl (by first | decide | exact jp_01 _) ?_
      show jX m_X11_of 100 0 0 5 [(0, .ref 31), (1, .int a1), (2, .int a2)] [.int 0] _ 0 0 _
      refine x_ifne (tgt := 11) rfl rfl (bn_f (by decide) ?_)
      refine x_bipush (v := (-2)) rfl kb_m2 ?_
      refine x_iret rfl rfl ?_
      exact jqe (show sp_of a1 a2 = (-2) by unfold sp_of; (repeat' split) <;> first | rfl | (exfalso; omega)) (hQ _ (by repeat (first | exact FM | refine jFb_si rfl ?_ | refine jFb_sl rfl ?_ | refine jFb_ci rfl ?_ | refine jFb_cl rfl ?_ | refine jFb_sr rfl ?_)) (by repeat (first | exact O | refine jOl_si rfl ?_ | refine jOl_sl rfl ?_ | refine jOl_ci rfl ?_ | refine jOl_cl rfl ?_ | refine jOl_sr rfl ?_)))
    ·
      refine x_iconst (v := 1) rfl ki_1 ?_
      refine x_goto (tgt := 23) rfl rfl ?_
      refine x_zret rfl rfl (by first | decide | exact jp_01 _) ?_
      show jX m_X11_of 100 0 0 5 [(0, .ref 31), (1, .int a1), (2, .int a2)] [.int 1] _ 0 0 _
      refine x_ifne (tgt := 11) rfl rfl (bn_t (by decide) ?_)
      refine x_iloadn (x := a2) rfl rfl ?_
      by_cases c3 : a2.toInt = 0
      ·
        refine x_tableIn (tgt := 52) 0 rfl c3 (by decide) (by decide) rfl rfl ?_
        refine x_aloadn (x := 31) rfl rfl ?_
        refine x_getR (b := 32) 11 0 rfl f_11_10 rfl (congrArg Prod.fst (F.1 31 (11, 13) rfl rfl)) (F.2.1 3968 32 rfl rfl) ?_
        refine x_getR (b := 33) 1 0 rfl f_11_126 rfl (congrArg Prod.fst (F.1 32 (1, 20) rfl rfl)) (F.2.1 4096 33 rfl rfl) ?_
        refine x_iloadn (x := a1) rfl rfl ?_
        refine x_iconst (v := 2) rfl ki_2 ?_
        refine x_inv (N := m_X8_at) (As := [.int a1, .int 2]) (b := 33) (st := []) (d' := 99) (mc := 0) (ms := 0) (host := "") 8 rfl t_X8_at ⟨Or.inl q_11_171, i_X8_at.1, i_X8_at.2⟩ ⟨by decide, rfl⟩ (congrArg Prod.fst (F.1 33 (8, 4) rfl rfl)) rfl (by decide) rfl rfl ⟨by decide, by decide⟩ (jC.of rfl k_X8_at rfl ?_)
        show jX m_X8_at 99 0 0 0 [(0, .ref 33), (1, .int a1), (2, .int 2)] [] _ 0 0 _
        refine x_iloadn (x := a1) rfl rfl ?_
        refine x_iflt (tgt := 24) rfl rfl (ti_lt (show (a1 : Int32).toInt = a1.toInt from rfl) (show (0 : Int32).toInt = 0 by decide) (br_f c1 ?_))
        refine x_iloadn (x := a1) rfl rfl ?_
        refine x_aloadn (x := 33) rfl rfl ?_
        refine y_getI (v := 0) 8 3 rfl f_8_7 rfl (congrArg Prod.fst (F.1 33 (8, 4) rfl rfl)) (F.2.2.1 4227 0 rfl rfl) ?_
        refine x_icge (tgt := 24) rfl rfl (ti_ge (show (a1 : Int32).toInt = a1.toInt from rfl) (show (0 : Int32).toInt = 0 by decide) (br_f c2 ?_))
        refine x_iloadn (x := 2) rfl rfl ?_
        refine x_iflt (tgt := 24) rfl rfl (br_f (by decide) ?_)
        refine x_iloadn (x := 2) rfl rfl ?_
        refine x_aloadn (x := 33) rfl rfl ?_
        refine y_getI (v := 6) 8 0 rfl f_8_19 rfl (congrArg Prod.fst (F.1 33 (8, 4) rfl rfl)) (F.2.2.1 4224 6 rfl rfl) ?_
        refine x_iclt (tgt := 26) rfl rfl (br_t (by decide) ?_)
        refine x_aloadn (x := 33) rfl rfl ?_
        refine x_getR (b := 34) 8 2 rfl f_8_25 rfl (congrArg Prod.fst (F.1 33 (8, 4) rfl rfl)) (F.2.1 4226 34 rfl rfl) ?_
        refine x_iloadn (x := a1) rfl rfl ?_
        refine x_aloadn (x := 33) rfl rfl ?_
        refine y_getI (v := 6) 8 0 rfl f_8_19 rfl (congrArg Prod.fst (F.1 33 (8, 4) rfl rfl)) (F.2.2.1 4224 6 rfl rfl) ?_
        refine x_imul rfl ?_
        refine x_iloadn (x := 2) rfl rfl ?_
        refine x_iadd rfl ?_
        refine y_iald (v := 0) (N := 1200) ((a1 * 6) + 2).toNatClampNeg rfl (F.1 34 (100, 1200) rfl rfl) (vpi (by omega)) rfl (F.2.2.2.1 34 rfl rfl _).1 ?_
        refine x_iret rfl rfl ?_
        show jX m_X11_of 100 0 0 64 [(0, .ref 31), (1, .int a1), (2, .int a2)] [.int 0] _ 0 0 _
        refine x_iret rfl rfl ?_
        exact jqe (show sp_of a1 a2 = 0 by unfold sp_of; (repeat' split) <;> first | rfl | (exfalso; omega)) (hQ _ (by repeat (first | exact FM | refine jFb_si rfl ?_ | refine jFb_sl rfl ?_ | refine jFb_ci rfl ?_ | refine jFb_cl rfl ?_ | refine jFb_sr rfl ?_)) (by repeat (first | exact O | refine jOl_si rfl ?_ | refine jOl_sl rfl ?_ | refine jOl_ci rfl ?_ | refine jOl_cl rfl ?_ | refine jOl_sr rfl ?_)))
      by_cases c4 : a2.toInt = 1
      ·
        refine x_tableIn (tgt := 65) 1 rfl c4 (by decide) (by decide) rfl rfl ?_
        refine x_aloadn (x := 31) rfl rfl ?_
        refine x_getR (b := 32) 11 0 rfl f_11_10 rfl (congrArg Prod.fst (F.1 31 (11, 13) rfl rfl)) (F.2.1 3968 32 rfl rfl) ?_
        refine x_getR (b := 33) 1 0 rfl f_11_126 rfl (congrArg Prod.fst (F.1 32 (1, 20) rfl rfl)) (F.2.1 4096 33 rfl rfl) ?_
        refine x_iloadn (x := a1) rfl rfl ?_
        refine x_iconst (v := 3) rfl ki_3 ?_
        refine x_inv (N := m_X8_at) (As := [.int a1, .int 3]) (b := 33) (st := []) (d' := 99) (mc := 0) (ms := 0) (host := "") 8 rfl t_X8_at ⟨Or.inl q_11_171, i_X8_at.1, i_X8_at.2⟩ ⟨by decide, rfl⟩ (congrArg Prod.fst (F.1 33 (8, 4) rfl rfl)) rfl (by decide) rfl rfl ⟨by decide, by decide⟩ (jC.of rfl k_X8_at rfl ?_)
        show jX m_X8_at 99 0 0 0 [(0, .ref 33), (1, .int a1), (2, .int 3)] [] _ 0 0 _
        refine x_iloadn (x := a1) rfl rfl ?_
        refine x_iflt (tgt := 24) rfl rfl (ti_lt (show (a1 : Int32).toInt = a1.toInt from rfl) (show (0 : Int32).toInt = 0 by decide) (br_f c1 ?_))
        refine x_iloadn (x := a1) rfl rfl ?_
        refine x_aloadn (x := 33) rfl rfl ?_
        refine y_getI (v := 0) 8 3 rfl f_8_7 rfl (congrArg Prod.fst (F.1 33 (8, 4) rfl rfl)) (F.2.2.1 4227 0 rfl rfl) ?_
        refine x_icge (tgt := 24) rfl rfl (ti_ge (show (a1 : Int32).toInt = a1.toInt from rfl) (show (0 : Int32).toInt = 0 by decide) (br_f c2 ?_))
        refine x_iloadn (x := 3) rfl rfl ?_
        refine x_iflt (tgt := 24) rfl rfl (br_f (by decide) ?_)
        refine x_iloadn (x := 3) rfl rfl ?_
        refine x_aloadn (x := 33) rfl rfl ?_
        refine y_getI (v := 6) 8 0 rfl f_8_19 rfl (congrArg Prod.fst (F.1 33 (8, 4) rfl rfl)) (F.2.2.1 4224 6 rfl rfl) ?_
        refine x_iclt (tgt := 26) rfl rfl (br_t (by decide) ?_)
        refine x_aloadn (x := 33) rfl rfl ?_
        refine x_getR (b := 34) 8 2 rfl f_8_25 rfl (congrArg Prod.fst (F.1 33 (8, 4) rfl rfl)) (F.2.1 4226 34 rfl rfl) ?_
        refine x_iloadn (x := a1) rfl rfl ?_
        refine x_aloadn (x := 33) rfl rfl ?_
        refine y_getI (v := 6) 8 0 rfl f_8_19 rfl (congrArg Prod.fst (F.1 33 (8, 4) rfl rfl)) (F.2.2.1 4224 6 rfl rfl) ?_
        refine x_imul rfl ?_
        refine x_iloadn (x := 3) rfl rfl ?_
        refine x_iadd rfl ?_
        refine y_iald (v := 0) (N := 1200) ((a1 * 6) + 3).toNatClampNeg rfl (F.1 34 (100, 1200) rfl rfl) (vpi (by omega)) rfl (F.2.2.2.1 34 rfl rfl _).1 ?_
        refine x_iret rfl rfl ?_
        show jX m_X11_of 100 0 0 77 [(0, .ref 31), (1, .int a1), (2, .int a2)] [.int 0] _ 0 0 _
        refine x_iret rfl rfl ?_
        exact jqe (show sp_of a1 a2 = 0 by unfold sp_of; (repeat' split) <;> first | rfl | (exfalso; omega)) (hQ _ (by repeat (first | exact FM | refine jFb_si rfl ?_ | refine jFb_sl rfl ?_ | refine jFb_ci rfl ?_ | refine jFb_cl rfl ?_ | refine jFb_sr rfl ?_)) (by repeat (first | exact O | refine jOl_si rfl ?_ | refine jOl_sl rfl ?_ | refine jOl_ci rfl ?_ | refine jOl_cl rfl ?_ | refine jOl_sr rfl ?_)))
      by_cases c5 : a2.toInt = 2
      ·
        refine x_tableIn (tgt := 78) 2 rfl c5 (by decide) (by decide) rfl rfl ?_
        refine x_aloadn (x := 31) rfl rfl ?_
        refine x_getR (b := 32) 11 0 rfl f_11_10 rfl (congrArg Prod.fst (F.1 31 (11, 13) rfl rfl)) (F.2.1 3968 32 rfl rfl) ?_
        refine x_getR (b := 33) 1 0 rfl f_11_126 rfl (congrArg Prod.fst (F.1 32 (1, 20) rfl rfl)) (F.2.1 4096 33 rfl rfl) ?_
        refine x_iloadn (x := a1) rfl rfl ?_
        refine x_iconst (v := 1) rfl ki_1 ?_
        refine x_inv (N := m_X8_at) (As := [.int a1, .int 1]) (b := 33) (st := []) (d' := 99) (mc := 0) (ms := 0) (host := "") 8 rfl t_X8_at ⟨Or.inl q_11_171, i_X8_at.1, i_X8_at.2⟩ ⟨by decide, rfl⟩ (congrArg Prod.fst (F.1 33 (8, 4) rfl rfl)) rfl (by decide) rfl rfl ⟨by decide, by decide⟩ (jC.of rfl k_X8_at rfl ?_)
        show jX m_X8_at 99 0 0 0 [(0, .ref 33), (1, .int a1), (2, .int 1)] [] _ 0 0 _
        refine x_iloadn (x := a1) rfl rfl ?_
        refine x_iflt (tgt := 24) rfl rfl (ti_lt (show (a1 : Int32).toInt = a1.toInt from rfl) (show (0 : Int32).toInt = 0 by decide) (br_f c1 ?_))
        refine x_iloadn (x := a1) rfl rfl ?_
        refine x_aloadn (x := 33) rfl rfl ?_
        refine y_getI (v := 0) 8 3 rfl f_8_7 rfl (congrArg Prod.fst (F.1 33 (8, 4) rfl rfl)) (F.2.2.1 4227 0 rfl rfl) ?_
        refine x_icge (tgt := 24) rfl rfl (ti_ge (show (a1 : Int32).toInt = a1.toInt from rfl) (show (0 : Int32).toInt = 0 by decide) (br_f c2 ?_))
        refine x_iloadn (x := 1) rfl rfl ?_
        refine x_iflt (tgt := 24) rfl rfl (br_f (by decide) ?_)
        refine x_iloadn (x := 1) rfl rfl ?_
        refine x_aloadn (x := 33) rfl rfl ?_
        refine y_getI (v := 6) 8 0 rfl f_8_19 rfl (congrArg Prod.fst (F.1 33 (8, 4) rfl rfl)) (F.2.2.1 4224 6 rfl rfl) ?_
        refine x_iclt (tgt := 26) rfl rfl (br_t (by decide) ?_)
        refine x_aloadn (x := 33) rfl rfl ?_
        refine x_getR (b := 34) 8 2 rfl f_8_25 rfl (congrArg Prod.fst (F.1 33 (8, 4) rfl rfl)) (F.2.1 4226 34 rfl rfl) ?_
        refine x_iloadn (x := a1) rfl rfl ?_
        refine x_aloadn (x := 33) rfl rfl ?_
        refine y_getI (v := 6) 8 0 rfl f_8_19 rfl (congrArg Prod.fst (F.1 33 (8, 4) rfl rfl)) (F.2.2.1 4224 6 rfl rfl) ?_
        refine x_imul rfl ?_
        refine x_iloadn (x := 1) rfl rfl ?_
        refine x_iadd rfl ?_
        refine y_iald (v := 0) (N := 1200) ((a1 * 6) + 1).toNatClampNeg rfl (F.1 34 (100, 1200) rfl rfl) (vpi (by omega)) rfl (F.2.2.2.1 34 rfl rfl _).1 ?_
        refine x_iret rfl rfl ?_
        show jX m_X11_of 100 0 0 90 [(0, .ref 31), (1, .int a1), (2, .int a2)] [.int 0] _ 0 0 _
        refine x_iret rfl rfl ?_
        exact jqe (show sp_of a1 a2 = 0 by unfold sp_of; (repeat' split) <;> first | rfl | (exfalso; omega)) (hQ _ (by repeat (first | exact FM | refine jFb_si rfl ?_ | refine jFb_sl rfl ?_ | refine jFb_ci rfl ?_ | refine jFb_cl rfl ?_ | refine jFb_sr rfl ?_)) (by repeat (first | exact O | refine jOl_si rfl ?_ | refine jOl_sl rfl ?_ | refine jOl_ci rfl ?_ | refine jOl_cl rfl ?_ | refine jOl_sr rfl ?_)))
      by_cases c6 : a2.toInt = 3
      ·
        refine x_tableIn (tgt := 91) 3 rfl c6 (by decide) (by decide) rfl rfl ?_
        refine x_aloadn (x := 31) rfl rfl ?_
        refine x_getR (b := 32) 11 0 rfl f_11_10 rfl (congrArg Prod.fst (F.1 31 (11, 13) rfl rfl)) (F.2.1 3968 32 rfl rfl) ?_
        refine x_getR (b := 33) 1 0 rfl f_11_126 rfl (congrArg Prod.fst (F.1 32 (1, 20) rfl rfl)) (F.2.1 4096 33 rfl rfl) ?_
        refine x_iloadn (x := a1) rfl rfl ?_
        refine x_iconst (v := 4) rfl ki_4 ?_
        refine x_inv (N := m_X8_at) (As := [.int a1, .int 4]) (b := 33) (st := []) (d' := 99) (mc := 0) (ms := 0) (host := "") 8 rfl t_X8_at ⟨Or.inl q_11_171, i_X8_at.1, i_X8_at.2⟩ ⟨by decide, rfl⟩ (congrArg Prod.fst (F.1 33 (8, 4) rfl rfl)) rfl (by decide) rfl rfl ⟨by decide, by decide⟩ (jC.of rfl k_X8_at rfl ?_)
        show jX m_X8_at 99 0 0 0 [(0, .ref 33), (1, .int a1), (2, .int 4)] [] _ 0 0 _
        refine x_iloadn (x := a1) rfl rfl ?_
        refine x_iflt (tgt := 24) rfl rfl (ti_lt (show (a1 : Int32).toInt = a1.toInt from rfl) (show (0 : Int32).toInt = 0 by decide) (br_f c1 ?_))
        refine x_iloadn (x := a1) rfl rfl ?_
        refine x_aloadn (x := 33) rfl rfl ?_
        refine y_getI (v := 0) 8 3 rfl f_8_7 rfl (congrArg Prod.fst (F.1 33 (8, 4) rfl rfl)) (F.2.2.1 4227 0 rfl rfl) ?_
        refine x_icge (tgt := 24) rfl rfl (ti_ge (show (a1 : Int32).toInt = a1.toInt from rfl) (show (0 : Int32).toInt = 0 by decide) (br_f c2 ?_))
        refine x_iloadn (x := 4) rfl rfl ?_
        refine x_iflt (tgt := 24) rfl rfl (br_f (by decide) ?_)
        refine x_iloadn (x := 4) rfl rfl ?_
        refine x_aloadn (x := 33) rfl rfl ?_
        refine y_getI (v := 6) 8 0 rfl f_8_19 rfl (congrArg Prod.fst (F.1 33 (8, 4) rfl rfl)) (F.2.2.1 4224 6 rfl rfl) ?_
        refine x_iclt (tgt := 26) rfl rfl (br_t (by decide) ?_)
        refine x_aloadn (x := 33) rfl rfl ?_
        refine x_getR (b := 34) 8 2 rfl f_8_25 rfl (congrArg Prod.fst (F.1 33 (8, 4) rfl rfl)) (F.2.1 4226 34 rfl rfl) ?_
        refine x_iloadn (x := a1) rfl rfl ?_
        refine x_aloadn (x := 33) rfl rfl ?_
        refine y_getI (v := 6) 8 0 rfl f_8_19 rfl (congrArg Prod.fst (F.1 33 (8, 4) rfl rfl)) (F.2.2.1 4224 6 rfl rfl) ?_
        refine x_imul rfl ?_
        refine x_iloadn (x := 4) rfl rfl ?_
        refine x_iadd rfl ?_
        refine y_iald (v := 0) (N := 1200) ((a1 * 6) + 4).toNatClampNeg rfl (F.1 34 (100, 1200) rfl rfl) (vpi (by omega)) rfl (F.2.2.2.1 34 rfl rfl _).1 ?_
        refine x_iret rfl rfl ?_
        show jX m_X11_of 100 0 0 103 [(0, .ref 31), (1, .int a1), (2, .int a2)] [.int 0] _ 0 0 _
        refine x_iret rfl rfl ?_
        exact jqe (show sp_of a1 a2 = 0 by unfold sp_of; (repeat' split) <;> first | rfl | (exfalso; omega)) (hQ _ (by repeat (first | exact FM | refine jFb_si rfl ?_ | refine jFb_sl rfl ?_ | refine jFb_ci rfl ?_ | refine jFb_cl rfl ?_ | refine jFb_sr rfl ?_)) (by repeat (first | exact O | refine jOl_si rfl ?_ | refine jOl_sl rfl ?_ | refine jOl_ci rfl ?_ | refine jOl_cl rfl ?_ | refine jOl_sr rfl ?_)))
      by_cases c7 : a2.toInt = 4
      ·
        refine x_tableIn (tgt := 104) 4 rfl c7 (by decide) (by decide) rfl rfl ?_
        refine x_aloadn (x := 31) rfl rfl ?_
        refine x_getR (b := 32) 11 0 rfl f_11_10 rfl (congrArg Prod.fst (F.1 31 (11, 13) rfl rfl)) (F.2.1 3968 32 rfl rfl) ?_
        refine x_getR (b := 33) 1 0 rfl f_11_126 rfl (congrArg Prod.fst (F.1 32 (1, 20) rfl rfl)) (F.2.1 4096 33 rfl rfl) ?_
        refine x_iloadn (x := a1) rfl rfl ?_
        refine x_iconst (v := 5) rfl ki_5 ?_
        refine x_inv (N := m_X8_at) (As := [.int a1, .int 5]) (b := 33) (st := []) (d' := 99) (mc := 0) (ms := 0) (host := "") 8 rfl t_X8_at ⟨Or.inl q_11_171, i_X8_at.1, i_X8_at.2⟩ ⟨by decide, rfl⟩ (congrArg Prod.fst (F.1 33 (8, 4) rfl rfl)) rfl (by decide) rfl rfl ⟨by decide, by decide⟩ (jC.of rfl k_X8_at rfl ?_)
        show jX m_X8_at 99 0 0 0 [(0, .ref 33), (1, .int a1), (2, .int 5)] [] _ 0 0 _
        refine x_iloadn (x := a1) rfl rfl ?_
        refine x_iflt (tgt := 24) rfl rfl (ti_lt (show (a1 : Int32).toInt = a1.toInt from rfl) (show (0 : Int32).toInt = 0 by decide) (br_f c1 ?_))
        refine x_iloadn (x := a1) rfl rfl ?_
        refine x_aloadn (x := 33) rfl rfl ?_
        refine y_getI (v := 0) 8 3 rfl f_8_7 rfl (congrArg Prod.fst (F.1 33 (8, 4) rfl rfl)) (F.2.2.1 4227 0 rfl rfl) ?_
        refine x_icge (tgt := 24) rfl rfl (ti_ge (show (a1 : Int32).toInt = a1.toInt from rfl) (show (0 : Int32).toInt = 0 by decide) (br_f c2 ?_))
        refine x_iloadn (x := 5) rfl rfl ?_
        refine x_iflt (tgt := 24) rfl rfl (br_f (by decide) ?_)
        refine x_iloadn (x := 5) rfl rfl ?_
        refine x_aloadn (x := 33) rfl rfl ?_
        refine y_getI (v := 6) 8 0 rfl f_8_19 rfl (congrArg Prod.fst (F.1 33 (8, 4) rfl rfl)) (F.2.2.1 4224 6 rfl rfl) ?_
        refine x_iclt (tgt := 26) rfl rfl (br_t (by decide) ?_)
        refine x_aloadn (x := 33) rfl rfl ?_
        refine x_getR (b := 34) 8 2 rfl f_8_25 rfl (congrArg Prod.fst (F.1 33 (8, 4) rfl rfl)) (F.2.1 4226 34 rfl rfl) ?_
        refine x_iloadn (x := a1) rfl rfl ?_
        refine x_aloadn (x := 33) rfl rfl ?_
        refine y_getI (v := 6) 8 0 rfl f_8_19 rfl (congrArg Prod.fst (F.1 33 (8, 4) rfl rfl)) (F.2.2.1 4224 6 rfl rfl) ?_
        refine x_imul rfl ?_
        refine x_iloadn (x := 5) rfl rfl ?_
        refine x_iadd rfl ?_
        refine y_iald (v := 0) (N := 1200) ((a1 * 6) + 5).toNatClampNeg rfl (F.1 34 (100, 1200) rfl rfl) (vpi (by omega)) rfl (F.2.2.2.1 34 rfl rfl _).1 ?_
        refine x_iret rfl rfl ?_
        show jX m_X11_of 100 0 0 116 [(0, .ref 31), (1, .int a1), (2, .int a2)] [.int 0] _ 0 0 _
        refine x_iret rfl rfl ?_
        exact jqe (show sp_of a1 a2 = 0 by unfold sp_of; (repeat' split) <;> first | rfl | (exfalso; omega)) (hQ _ (by repeat (first | exact FM | refine jFb_si rfl ?_ | refine jFb_sl rfl ?_ | refine jFb_ci rfl ?_ | refine jFb_cl rfl ?_ | refine jFb_sr rfl ?_)) (by repeat (first | exact O | refine jOl_si rfl ?_ | refine jOl_sl rfl ?_ | refine jOl_ci rfl ?_ | refine jOl_cl rfl ?_ | refine jOl_sr rfl ?_)))
      by_cases c8 : a2.toInt = 5
      ·
        refine x_tableIn (tgt := 117) 5 rfl c8 (by decide) (by decide) rfl rfl ?_
        refine x_aloadn (x := 31) rfl rfl ?_
        refine x_iloadn (x := a1) rfl rfl ?_
        refine x_inv (N := m_X11_rolesOf) (As := [.int a1]) (b := 31) (st := []) (d' := 99) (mc := 0) (ms := 0) (host := "") 11 rfl t_X11_rolesOf ⟨Or.inl q_11_175, i_X11_rolesOf.1, i_X11_rolesOf.2⟩ ⟨by decide, rfl⟩ (congrArg Prod.fst (F.1 31 (11, 13) rfl rfl)) rfl (by decide) rfl rfl ⟨by decide, by decide⟩ (jC.of rfl k_X11_rolesOf rfl ?_)
        show jX m_X11_rolesOf 99 0 0 0 [(0, .ref 31), (1, .int a1)] [] _ 0 0 _
        refine x_aloadn (x := 31) rfl rfl ?_
        refine x_getR (b := 32) 11 0 rfl f_11_10 rfl (congrArg Prod.fst (F.1 31 (11, 13) rfl rfl)) (F.2.1 3968 32 rfl rfl) ?_
        refine x_getR (b := 33) 1 0 rfl f_11_126 rfl (congrArg Prod.fst (F.1 32 (1, 20) rfl rfl)) (F.2.1 4096 33 rfl rfl) ?_
        refine x_iloadn (x := a1) rfl rfl ?_
        refine x_iconst (v := 2) rfl ki_2 ?_
        refine x_inv (N := m_X8_at) (As := [.int a1, .int 2]) (b := 33) (st := []) (d' := 98) (mc := 0) (ms := 0) (host := "") 8 rfl t_X8_at ⟨Or.inl q_11_171, i_X8_at.1, i_X8_at.2⟩ ⟨by decide, rfl⟩ (congrArg Prod.fst (F.1 33 (8, 4) rfl rfl)) rfl (by decide) rfl rfl ⟨by decide, by decide⟩ (jC.of rfl k_X8_at rfl ?_)
        show jX m_X8_at 98 0 0 0 [(0, .ref 33), (1, .int a1), (2, .int 2)] [] _ 0 0 _
        refine x_iloadn (x := a1) rfl rfl ?_
        refine x_iflt (tgt := 24) rfl rfl (ti_lt (show (a1 : Int32).toInt = a1.toInt from rfl) (show (0 : Int32).toInt = 0 by decide) (br_f c1 ?_))
        refine x_iloadn (x := a1) rfl rfl ?_
        refine x_aloadn (x := 33) rfl rfl ?_
        refine y_getI (v := 0) 8 3 rfl f_8_7 rfl (congrArg Prod.fst (F.1 33 (8, 4) rfl rfl)) (F.2.2.1 4227 0 rfl rfl) ?_
        refine x_icge (tgt := 24) rfl rfl (ti_ge (show (a1 : Int32).toInt = a1.toInt from rfl) (show (0 : Int32).toInt = 0 by decide) (br_f c2 ?_))
        refine x_iloadn (x := 2) rfl rfl ?_
        refine x_iflt (tgt := 24) rfl rfl (br_f (by decide) ?_)
        refine x_iloadn (x := 2) rfl rfl ?_
        refine x_aloadn (x := 33) rfl rfl ?_
        refine y_getI (v := 6) 8 0 rfl f_8_19 rfl (congrArg Prod.fst (F.1 33 (8, 4) rfl rfl)) (F.2.2.1 4224 6 rfl rfl) ?_
        refine x_iclt (tgt := 26) rfl rfl (br_t (by decide) ?_)
        refine x_aloadn (x := 33) rfl rfl ?_
        refine x_getR (b := 34) 8 2 rfl f_8_25 rfl (congrArg Prod.fst (F.1 33 (8, 4) rfl rfl)) (F.2.1 4226 34 rfl rfl) ?_
        refine x_iloadn (x := a1) rfl rfl ?_
        refine x_aloadn (x := 33) rfl rfl ?_
        refine y_getI (v := 6) 8 0 rfl f_8_19 rfl (congrArg Prod.fst (F.1 33 (8, 4) rfl rfl)) (F.2.2.1 4224 6 rfl rfl) ?_
        refine x_imul rfl ?_
        refine x_iloadn (x := 2) rfl rfl ?_
        refine x_iadd rfl ?_
        refine y_iald (v := 0) (N := 1200) ((a1 * 6) + 2).toNatClampNeg rfl (F.1 34 (100, 1200) rfl rfl) (vpi (by omega)) rfl (F.2.2.2.1 34 rfl rfl _).1 ?_
        refine x_iret rfl rfl ?_
        show jX m_X11_rolesOf 99 0 0 12 [(0, .ref 31), (1, .int a1)] [.int 0] _ 0 0 _
        refine x_istoren (ls' := [(2, .int 0), (0, .ref 31), (1, .int a1)]) rfl rfl rfl ?_
        refine x_iloadn (x := 0) rfl rfl ?_
        refine x_inst (N := m_X11_isBook) (As := [.int 0]) (st := []) (d' := 98) (mc := 0) (ms := 0) (host := "") rfl t_X11_isBook ⟨Or.inl q_11_112, s_X11_isBook⟩ rfl (by decide) rfl rfl ⟨by decide, by decide⟩ (jC.of rfl k_X11_isBook rfl ?_)
        show jX m_X11_isBook 98 0 0 0 [(0, .int 0)] [] _ 0 0 _
        refine x_iloadn (x := 0) rfl rfl ?_
        refine x_iflt (tgt := 13) rfl rfl (br_f (by decide) ?_)
        refine x_iloadn (x := 0) rfl rfl ?_
        refine x_iconst (v := 5) rfl ki_5 ?_
        refine x_icgt (tgt := 13) rfl rfl (br_f (by decide) ?_)
        refine x_iconst (v := 1) rfl ki_1 ?_
        refine x_goto (tgt := 14) rfl rfl ?_
        refine x_zret rfl rfl (by first | decide | exact jp_01 _) ?_
        show jX m_X11_rolesOf 99 0 0 17 [(2, .int 0), (0, .ref 31), (1, .int a1)] [.int 1] _ 0 0 _
        refine x_ifeq (tgt := 28) rfl rfl (br_f (by decide) ?_)
        refine x_gets jst_1 rfl (by decide +kernel) u_11_136 ?_
        show jX m_X11_rolesOf 99 0 0 23 [(2, .int 0), (0, .ref 31), (1, .int a1)] [.ref 1] _ 0 0 _
        refine x_iloadn (x := 0) rfl rfl ?_
        refine y_iald (v := 3) (N := 6) 0 rfl (O 1 (by decide)).1 (jinb_of (by decide)) (by decide) ((O 1 (by decide)).2 0) ?_
        refine x_goto (tgt := 29) rfl rfl ?_
        refine x_iret rfl rfl ?_
        show jX m_X11_of 100 0 0 122 [(0, .ref 31), (1, .int a1), (2, .int a2)] [.int 3] _ 0 0 _
        refine x_iret rfl rfl ?_
        exact jqe (show sp_of a1 a2 = 3 by unfold sp_of; (repeat' split) <;> first | rfl | (exfalso; omega)) (hQ _ (by repeat (first | exact FM | refine jFb_si rfl ?_ | refine jFb_sl rfl ?_ | refine jFb_ci rfl ?_ | refine jFb_cl rfl ?_ | refine jFb_sr rfl ?_)) (by repeat (first | exact O | refine jOl_si rfl ?_ | refine jOl_sl rfl ?_ | refine jOl_ci rfl ?_ | refine jOl_cl rfl ?_ | refine jOl_sr rfl ?_)))
      refine x_tableOut (tgt := 123) rfl (by omega) rfl ?_
      refine x_bipush (v := (-2)) rfl kb_m2 ?_
      refine x_iret rfl rfl ?_
      exact jqe (show sp_of a1 a2 = (-2) by unfold sp_of; (repeat' split) <;> first | rfl | (exfalso; omega)) (hQ _ (by repeat (first | exact FM | refine jFb_si rfl ?_ | refine jFb_sl rfl ?_ | refine jFb_ci rfl ?_ | refine jFb_cl rfl ?_ | refine jFb_sr rfl ?_)) (by repeat (first | exact O | refine jOl_si rfl ?_ | refine jOl_sl rfl ?_ | refine jOl_ci rfl ?_ | refine jOl_cl rfl ?_ | refine jOl_sr rfl ?_)))
set_option maxRecDepth 100000 in
set_option maxHeartbeats 40000000 in
theorem pm_of (a1 a2 : Int32) {xs : Nat → Int32} {h : jH} {Q : Option Value → jH → Prop} (F : jFb 125 h) (O : jOl 7 xs h) (hQ : ∀ h', jOl 7 xs h' → Q (some (.int (sp_of a1 a2))) h') : jC m_X12_of 100 0 0 [.ref 125, .int a1, .int a2] h Q := by
  refine jC.of rfl k_X12_of rfl ?_
  show jX m_X12_of 100 0 0 0 [(0, .ref 125), (1, .int a1), (2, .int a2)] [] _ 0 0 _
  refine x_aloadn (x := 125) rfl rfl ?_
  refine x_iconst (v := 0) rfl ki_0 ?_
  refine x_putI 12 0 rfl f_12_180 rfl (jfin_no TX12 RX12 92 rfl rfl) (congrArg Prod.fst (F.1 125 (12, 92) rfl rfl)) rfl ?_
  refine x_aloadn (x := 125) rfl rfl ?_
  refine x_iloadn (x := a1) rfl rfl ?_
  refine x_inv (N := m_X12_isLine) (As := [.int a1]) (b := 125) (st := []) (d' := 99) (mc := 0) (ms := 0) (host := "") 12 rfl t_X12_isLine ⟨Or.inl q_12_293, i_X12_isLine.1, i_X12_isLine.2⟩ ⟨by decide, rfl⟩ (congrArg Prod.fst (F.1 125 (12, 92) rfl rfl)) rfl (by decide) rfl rfl ⟨by decide, by decide⟩ (jC.of rfl k_X12_isLine rfl ?_)
  show jX m_X12_isLine 99 0 0 0 [(0, .ref 125), (1, .int a1)] [] _ 0 0 _
  refine x_iloadn (x := a1) rfl rfl ?_
  refine x_i2l rfl ?_
  refine x_lconst (v := 0) rfl kl_0 ?_
  refine x_aloadn (x := 125) rfl rfl ?_
  refine x_getR (b := 126) 12 2 rfl f_12_8 rfl (congrArg Prod.fst (F.1 125 (12, 92) rfl rfl)) (F.2.1 16002 126 rfl rfl) ?_
  refine x_iconst (v := 0) rfl ki_0 ?_
  refine y_iald (v := 0) (N := 50660) 0 rfl (F.1 126 (100, 50660) rfl rfl) (jinb_of (by decide)) (by decide) (F.2.2.2.1 126 rfl rfl 0).1 ?_
  refine y_i2l (v := 0) rfl (by decide) ?_
  refine x_lconst (v := 1) rfl kl_1 ?_
  refine y_lsub (v := (-1)) rfl (by decide) ?_
  refine x_inst (N := m_X12_in) (As := [.long (a1.toInt64), .long 0, .long (-1)]) (st := []) (d' := 98) (mc := 0) (ms := 0) (host := "") rfl t_X12_in ⟨Or.inl q_12_188, s_X12_in⟩ rfl (by decide) rfl rfl ⟨by decide, by decide⟩ (c_X12_in (jt_l _) (by decide) (by decide) ?_)
  show jX m_X12_isLine 99 0 0 15 [(0, .ref 125), (1, .int a1)] [.int (jp (0 ≤ a1.toInt ∧ a1.toInt ≤ (-1)))] _ 0 0 _
  refine x_zret rfl rfl (by first | decide | exact jp_01 _) ?_
  show jX m_X12_of 100 0 0 10 [(0, .ref 125), (1, .int a1), (2, .int a2)] [.int (jp (0 ≤ a1.toInt ∧ a1.toInt ≤ (-1)))] _ 0 0 _
  refine x_ifeq (tgt := 25) rfl rfl (jpe ⟨fun c1 => ?_, fun c1 => ?_⟩)
  ·
    refine x_bipush (v := (-2)) rfl kb_m2 ?_
    refine x_iret rfl rfl ?_
    exact jqe (show sp_of a1 a2 = (-2) by unfold sp_of; (repeat' split) <;> first | rfl | (exfalso; omega)) (hQ _ (by repeat (first | exact O | refine jOl_si rfl ?_ | refine jOl_sl rfl ?_ | refine jOl_ci rfl ?_ | refine jOl_cl rfl ?_ | refine jOl_sr rfl ?_)))
  ·
    refine x_iloadn (x := a2) rfl rfl ?_
    refine x_i2l rfl ?_
    refine x_lconst (v := 0) rfl kl_0 ?_
    refine x_ldc2 (v := 5) rfl z_12_269 ?_
    refine x_inst (N := m_X12_in) (As := [.long (a2.toInt64), .long 0, .long 5]) (st := []) (d' := 99) (mc := 0) (ms := 0) (host := "") rfl t_X12_in ⟨Or.inl q_12_188, s_X12_in⟩ rfl (by decide) rfl rfl ⟨by decide, by decide⟩ (c_X12_in (jt_l _) (by decide) (by decide) ?_)
    show jX m_X12_of 100 0 0 22 [(0, .ref 125), (1, .int a1), (2, .int a2)] [.int (jp (0 ≤ a2.toInt ∧ a2.toInt ≤ 5))] _ 0 0 _
    refine x_ifne (tgt := 28) rfl rfl (jpn ⟨fun c2 => ?_, fun c2 => ?_⟩)
    ·
      refine x_aloadn (x := 125) rfl rfl ?_
      refine x_iloadn (x := a1) rfl rfl ?_
      refine x_inv (N := m_X12_at) (As := [.int a1]) (b := 125) (st := []) (d' := 99) (mc := 0) (ms := 0) (host := "") 12 rfl t_X12_at ⟨Or.inl q_12_254, i_X12_at.1, i_X12_at.2⟩ ⟨by decide, rfl⟩ (congrArg Prod.fst (F.1 125 (12, 92) rfl rfl)) rfl (by decide) rfl rfl ⟨by decide, by decide⟩ (jC.of rfl k_X12_at rfl ?_)
      show jX m_X12_at 99 0 0 0 [(0, .ref 125), (1, .int a1)] [] _ 0 0 _
      refine x_bipush (v := 20) rfl kb_20 ?_
      refine x_bipush (v := 90) rfl kb_90 ?_
      refine x_iloadn (x := a1) rfl rfl ?_
      refine x_imul rfl ?_
      refine x_iadd rfl ?_
      refine x_iret rfl rfl ?_
      show jX m_X12_of 100 0 0 33 [(0, .ref 125), (1, .int a1), (2, .int a2)] [.int (20 + (90 * a1))] _ 0 0 _
      refine x_istoren (ls' := [(3, .int (20 + (90 * a1))), (0, .ref 125), (1, .int a1), (2, .int a2)]) rfl rfl rfl ?_
      refine x_iloadn (x := a2) rfl rfl ?_
      refine x_iconst (v := 3) rfl ki_3 ?_
      refine x_icge (tgt := 50) rfl rfl (ti_ge (show (a2 : Int32).toInt = a2.toInt from rfl) (show (3 : Int32).toInt = 3 by decide) ⟨fun c3 => ?_, fun c3 => ?_⟩)
      ·
        refine x_iloadn (x := a2) rfl rfl ?_
        refine x_iconst (v := 3) rfl ki_3 ?_
        refine x_icne (tgt := 63) rfl rfl (ti_ne (show (a2 : Int32).toInt = a2.toInt from rfl) (show (3 : Int32).toInt = 3 by decide) ⟨fun c4 => ?_, fun c4 => ?_⟩)
        ·
          refine x_iloadn (x := a2) rfl rfl ?_
          refine x_iconst (v := 4) rfl ki_4 ?_
          refine x_icne (tgt := 79) rfl rfl (ti_ne (show (a2 : Int32).toInt = a2.toInt from rfl) (show (4 : Int32).toInt = 4 by decide) ⟨fun c5 => ?_, fun c5 => ?_⟩)
          ·
            refine x_aloadn (x := 125) rfl rfl ?_
            refine x_iloadn (x := a1) rfl rfl ?_
            refine x_inv (N := m_X12_bookOf) (As := [.int a1]) (b := 125) (st := []) (d' := 99) (mc := 0) (ms := 0) (host := "") 12 rfl t_X12_bookOf ⟨Or.inl q_12_299, i_X12_bookOf.1, i_X12_bookOf.2⟩ ⟨by decide, rfl⟩ (congrArg Prod.fst (F.1 125 (12, 92) rfl rfl)) rfl (by decide) rfl rfl ⟨by decide, by decide⟩ (jC.of rfl k_X12_bookOf rfl ?_)
            show jX m_X12_bookOf 99 0 0 0 [(0, .ref 125), (1, .int a1)] [] _ 0 0 _
            refine x_aloadn (x := 125) rfl rfl ?_
            refine x_getR (b := 126) 12 2 rfl f_12_8 rfl (congrArg Prod.fst (F.1 125 (12, 92) rfl rfl)) (F.2.1 16002 126 rfl rfl) ?_
            refine x_aloadn (x := 125) rfl rfl ?_
            refine x_iloadn (x := a1) rfl rfl ?_
            refine x_inv (N := m_X12_at) (As := [.int a1]) (b := 125) (st := [.ref 126]) (d' := 98) (mc := 0) (ms := 0) (host := "") 12 rfl t_X12_at ⟨Or.inl q_12_254, i_X12_at.1, i_X12_at.2⟩ ⟨by decide, rfl⟩ (congrArg Prod.fst (F.1 125 (12, 92) rfl rfl)) rfl (by decide) rfl rfl ⟨by decide, by decide⟩ (jC.of rfl k_X12_at rfl ?_)
            show jX m_X12_at 98 0 0 0 [(0, .ref 125), (1, .int a1)] [] _ 0 0 _
            refine x_bipush (v := 20) rfl kb_20 ?_
            refine x_bipush (v := 90) rfl kb_90 ?_
            refine x_iloadn (x := a1) rfl rfl ?_
            refine x_imul rfl ?_
            refine x_iadd rfl ?_
            refine x_iret rfl rfl ?_
            show jX m_X12_bookOf 99 0 0 9 [(0, .ref 125), (1, .int a1)] [.int (20 + (90 * a1)), .ref 126] _ 0 0 _
            refine y_iald (v := 0) (N := 50660) (20 + (90 * a1)).toNatClampNeg rfl (F.1 126 (100, 50660) rfl rfl) (vpi (by omega)) rfl (F.2.2.2.1 126 rfl rfl _).1 ?_
            refine x_iret rfl rfl ?_
            show jX m_X12_of 100 0 0 84 [(3, .int (20 + (90 * a1))), (0, .ref 125), (1, .int a1), (2, .int a2)] [.int 0] _ 0 0 _
            refine x_inst (N := m_X12_rolesOf) (As := [.int 0]) (st := []) (d' := 99) (mc := 0) (ms := 0) (host := "") rfl t_X12_rolesOf ⟨Or.inl q_12_286, s_X12_rolesOf⟩ rfl (by decide) rfl rfl ⟨by decide, by decide⟩ (jC.of rfl k_X12_rolesOf rfl ?_)
            show jX m_X12_rolesOf 99 0 0 0 [(0, .int 0)] [] _ 0 0 _
            refine x_iloadn (x := 0) rfl rfl ?_
            refine x_ifne (tgt := 8) rfl rfl (bn_f (by decide) ?_)
            refine x_iconst (v := 3) rfl ki_3 ?_
            refine x_goto (tgt := 18) rfl rfl ?_
            refine x_iret rfl rfl ?_
            show jX m_X12_of 100 0 0 87 [(3, .int (20 + (90 * a1))), (0, .ref 125), (1, .int a1), (2, .int a2)] [.int 3] _ 0 0 _
            refine x_iret rfl rfl ?_
            exact jqe (show sp_of a1 a2 = 3 by unfold sp_of; (repeat' split) <;> first | rfl | (exfalso; omega)) (hQ _ (by repeat (first | exact O | refine jOl_si rfl ?_ | refine jOl_sl rfl ?_ | refine jOl_ci rfl ?_ | refine jOl_cl rfl ?_ | refine jOl_sr rfl ?_)))
          ·
            refine x_aloadn (x := 125) rfl rfl ?_
            refine x_getR (b := 126) 12 2 rfl f_12_8 rfl (congrArg Prod.fst (F.1 125 (12, 92) rfl rfl)) (F.2.1 16002 126 rfl rfl) ?_
            refine x_iloadn (x := 20 + (90 * a1)) rfl rfl ?_
            refine x_iconst (v := 5) rfl ki_5 ?_
            refine x_iadd rfl ?_
            refine y_iald (v := 0) (N := 50660) ((20 + (90 * a1)) + 5).toNatClampNeg rfl (F.1 126 (100, 50660) rfl rfl) (vpi (by omega)) rfl (F.2.2.2.1 126 rfl rfl _).1 ?_
            refine x_goto (tgt := 87) rfl rfl ?_
            refine x_iret rfl rfl ?_
            exact jqe (show sp_of a1 a2 = 0 by unfold sp_of; (repeat' split) <;> first | rfl | (exfalso; omega)) (hQ _ (by repeat (first | exact O | refine jOl_si rfl ?_ | refine jOl_sl rfl ?_ | refine jOl_ci rfl ?_ | refine jOl_cl rfl ?_ | refine jOl_sr rfl ?_)))
        ·
          refine x_aloadn (x := 125) rfl rfl ?_
          refine x_iloadn (x := a1) rfl rfl ?_
          refine x_inv (N := m_X12_numberOf) (As := [.int a1]) (b := 125) (st := []) (d' := 99) (mc := 0) (ms := 0) (host := "") 12 rfl t_X12_numberOf ⟨Or.inl q_12_296, i_X12_numberOf.1, i_X12_numberOf.2⟩ ⟨by decide, rfl⟩ (congrArg Prod.fst (F.1 125 (12, 92) rfl rfl)) rfl (by decide) rfl rfl ⟨by decide, by decide⟩ (jC.of rfl k_X12_numberOf rfl ?_)
          show jX m_X12_numberOf 99 0 0 0 [(0, .ref 125), (1, .int a1)] [] _ 0 0 _
          refine x_aloadn (x := 125) rfl rfl ?_
          refine x_getR (b := 126) 12 2 rfl f_12_8 rfl (congrArg Prod.fst (F.1 125 (12, 92) rfl rfl)) (F.2.1 16002 126 rfl rfl) ?_
          refine x_aloadn (x := 125) rfl rfl ?_
          refine x_iloadn (x := a1) rfl rfl ?_
          refine x_inv (N := m_X12_at) (As := [.int a1]) (b := 125) (st := [.ref 126]) (d' := 98) (mc := 0) (ms := 0) (host := "") 12 rfl t_X12_at ⟨Or.inl q_12_254, i_X12_at.1, i_X12_at.2⟩ ⟨by decide, rfl⟩ (congrArg Prod.fst (F.1 125 (12, 92) rfl rfl)) rfl (by decide) rfl rfl ⟨by decide, by decide⟩ (jC.of rfl k_X12_at rfl ?_)
          show jX m_X12_at 98 0 0 0 [(0, .ref 125), (1, .int a1)] [] _ 0 0 _
          refine x_bipush (v := 20) rfl kb_20 ?_
          refine x_bipush (v := 90) rfl kb_90 ?_
          refine x_iloadn (x := a1) rfl rfl ?_
          refine x_imul rfl ?_
          refine x_iadd rfl ?_
          refine x_iret rfl rfl ?_
          show jX m_X12_numberOf 99 0 0 9 [(0, .ref 125), (1, .int a1)] [.int (20 + (90 * a1)), .ref 126] _ 0 0 _
          refine x_iconst (v := 4) rfl ki_4 ?_
          refine x_iadd rfl ?_
          refine y_iald (v := 0) (N := 50660) ((20 + (90 * a1)) + 4).toNatClampNeg rfl (F.1 126 (100, 50660) rfl rfl) (vpi (by omega)) rfl (F.2.2.2.1 126 rfl rfl _).1 ?_
          refine x_iret rfl rfl ?_
          show jX m_X12_of 100 0 0 60 [(3, .int (20 + (90 * a1))), (0, .ref 125), (1, .int a1), (2, .int a2)] [.int 0] _ 0 0 _
          refine x_goto (tgt := 87) rfl rfl ?_
          refine x_iret rfl rfl ?_
          exact jqe (show sp_of a1 a2 = 0 by unfold sp_of; (repeat' split) <;> first | rfl | (exfalso; omega)) (hQ _ (by repeat (first | exact O | refine jOl_si rfl ?_ | refine jOl_sl rfl ?_ | refine jOl_ci rfl ?_ | refine jOl_cl rfl ?_ | refine jOl_sr rfl ?_)))
      ·
        refine x_aloadn (x := 125) rfl rfl ?_
        refine x_getR (b := 126) 12 2 rfl f_12_8 rfl (congrArg Prod.fst (F.1 125 (12, 92) rfl rfl)) (F.2.1 16002 126 rfl rfl) ?_
        refine x_iloadn (x := 20 + (90 * a1)) rfl rfl ?_
        refine x_iloadn (x := a2) rfl rfl ?_
        refine x_iadd rfl ?_
        refine y_iald (v := 0) (N := 50660) ((20 + (90 * a1)) + a2).toNatClampNeg rfl (F.1 126 (100, 50660) rfl rfl) (vpi (by omega)) rfl (F.2.2.2.1 126 rfl rfl _).1 ?_
        refine x_goto (tgt := 87) rfl rfl ?_
        refine x_iret rfl rfl ?_
        exact jqe (show sp_of a1 a2 = 0 by unfold sp_of; (repeat' split) <;> first | rfl | (exfalso; omega)) (hQ _ (by repeat (first | exact O | refine jOl_si rfl ?_ | refine jOl_sl rfl ?_ | refine jOl_ci rfl ?_ | refine jOl_cl rfl ?_ | refine jOl_sr rfl ?_)))
    ·
      refine x_bipush (v := (-2)) rfl kb_m2 ?_
      refine x_iret rfl rfl ?_
      exact jqe (show sp_of a1 a2 = (-2) by unfold sp_of; (repeat' split) <;> first | rfl | (exfalso; omega)) (hQ _ (by repeat (first | exact O | refine jOl_si rfl ?_ | refine jOl_sl rfl ?_ | refine jOl_ci rfl ?_ | refine jOl_cl rfl ?_ | refine jOl_sr rfl ?_)))
def sp_spell (a1 : Int32) : Int32 := if (0 ≤ a1.toInt ∧ a1.toInt ≤ 15) then 0 else (-1)
def sp_name (a1 a2 a3 : Int32) : Int32 := (-1)
set_option maxRecDepth 100000 in
set_option maxHeartbeats 40000000 in
theorem px_name (a1 a2 a3 : Int32) {xs : Nat → Int32} {h : jH} {Q : Option Value → jH → Prop} (F : jFb 31 h) (O : jOl 7 xs h) (hQ : ∀ h', jFb 125 h' → jOl 7 xs h' → Q (some (.int (sp_name a1 a2 a3))) h') : jC m_X11_name 100 0 0 [.ref 31, .int a1, .int a2, .int a3] h Q := by
  have FM := jFb_up 125 rfl F
  refine jC.of rfl k_X11_name rfl ?_
  show jX m_X11_name 100 0 0 0 [(0, .ref 31), (1, .int a1), (2, .int a2), (3, .int a3)] [] _ 0 0 _
  refine x_aloadn (x := 31) rfl rfl ?_
  refine x_getR (b := 78) 11 4 rfl f_11_41 rfl (congrArg Prod.fst (F.1 31 (11, 13) rfl rfl)) (F.2.1 3972 78 rfl rfl) ?_
  refine x_iloadn (x := a1) rfl rfl ?_
  refine x_inv (N := m_X7_isMention) (As := [.int a1]) (b := 78) (st := []) (d' := 99) (mc := 0) (ms := 0) (host := "") 7 rfl t_X7_isMention ⟨Or.inl q_11_187, i_X7_isMention.1, i_X7_isMention.2⟩ ⟨by decide, rfl⟩ (congrArg Prod.fst (F.1 78 (7, 16) rfl rfl)) rfl (by decide) rfl rfl ⟨by decide, by decide⟩ (jC.of rfl k_X7_isMention rfl ?_)
  show jX m_X7_isMention 99 0 0 0 [(0, .ref 78), (1, .int a1)] [] _ 0 0 _
  refine x_iloadn (x := a1) rfl rfl ?_
  refine x_iflt (tgt := 41) rfl rfl (ti_lt (show (a1 : Int32).toInt = a1.toInt from rfl) (show (0 : Int32).toInt = 0 by decide) ⟨fun c1 => ?_, fun c1 => ?_⟩)
  ·
    refine x_iconst (v := 0) rfl ki_0 ?_
    refine x_zret rfl rfl (by first | decide | exact jp_01 _) ?_
    show jX m_X11_name 100 0 0 8 [(0, .ref 31), (1, .int a1), (2, .int a2), (3, .int a3)] [.int 0] _ 0 0 _
    refine x_ifeq (tgt := 25) rfl rfl (br_t (by decide) ?_)
    refine x_iconst (v := (-1)) rfl ki_m1 ?_
    refine x_iret rfl rfl ?_
    exact jqe (show sp_name a1 a2 a3 = (-1) by unfold sp_name; (repeat' split) <;> first | rfl | (exfalso; omega)) (hQ _ (by repeat (first | exact FM | refine jFb_si rfl ?_ | refine jFb_sl rfl ?_ | refine jFb_ci rfl ?_ | refine jFb_cl rfl ?_ | refine jFb_sr rfl ?_)) (by repeat (first | exact O | refine jOl_si rfl ?_ | refine jOl_sl rfl ?_ | refine jOl_ci rfl ?_ | refine jOl_cl rfl ?_ | refine jOl_sr rfl ?_)))
  ·
    refine x_iloadn (x := a1) rfl rfl ?_
    refine x_sipush (v := 600) rfl ks_600 ?_
    refine x_icge (tgt := 41) rfl rfl (ti_ge (show (a1 : Int32).toInt = a1.toInt from rfl) (show (600 : Int32).toInt = 600 by decide) ⟨fun c2 => ?_, fun c2 => ?_⟩)
    ·
      refine x_iconst (v := 0) rfl ki_0 ?_
      refine x_zret rfl rfl (by first | decide | exact jp_01 _) ?_
      show jX m_X11_name 100 0 0 8 [(0, .ref 31), (1, .int a1), (2, .int a2), (3, .int a3)] [.int 0] _ 0 0 _
      refine x_ifeq (tgt := 25) rfl rfl (br_t (by decide) ?_)
      refine x_iconst (v := (-1)) rfl ki_m1 ?_
      refine x_iret rfl rfl ?_
      exact jqe (show sp_name a1 a2 a3 = (-1) by unfold sp_name; (repeat' split) <;> first | rfl | (exfalso; omega)) (hQ _ (by repeat (first | exact FM | refine jFb_si rfl ?_ | refine jFb_sl rfl ?_ | refine jFb_ci rfl ?_ | refine jFb_cl rfl ?_ | refine jFb_sr rfl ?_)) (by repeat (first | exact O | refine jOl_si rfl ?_ | refine jOl_sl rfl ?_ | refine jOl_ci rfl ?_ | refine jOl_cl rfl ?_ | refine jOl_sr rfl ?_)))
    ·
      refine x_iloadn (x := a1) rfl rfl ?_
      refine x_iconst (v := 3) rfl ki_3 ?_
      refine x_idiv rfl (by decide) ?_
      refine x_aloadn (x := 78) rfl rfl ?_
      refine x_getR (b := 32) 7 0 rfl f_7_55 rfl (congrArg Prod.fst (F.1 78 (7, 16) rfl rfl)) (F.2.1 9984 32 rfl rfl) ?_
      refine x_getR (b := 33) 1 0 rfl f_7_63 rfl (congrArg Prod.fst (F.1 32 (1, 20) rfl rfl)) (F.2.1 4096 33 rfl rfl) ?_
      refine y_getI (v := 0) 8 3 rfl f_7_85 rfl (congrArg Prod.fst (F.1 33 (8, 4) rfl rfl)) (F.2.2.1 4227 0 rfl rfl) ?_
      refine x_icge (tgt := 41) rfl rfl (ti_ge (show (a1 / 3 : Int32).toInt = (a1 / 3).toInt from rfl) (show (0 : Int32).toInt = 0 by decide) ⟨fun c3 => ?_, fun c3 => ?_⟩)
      ·
        refine x_iconst (v := 0) rfl ki_0 ?_
        refine x_zret rfl rfl (by first | decide | exact jp_01 _) ?_
        show jX m_X11_name 100 0 0 8 [(0, .ref 31), (1, .int a1), (2, .int a2), (3, .int a3)] [.int 0] _ 0 0 _
        refine x_ifeq (tgt := 25) rfl rfl (br_t (by decide) ?_)
        refine x_iconst (v := (-1)) rfl ki_m1 ?_
        refine x_iret rfl rfl ?_
        exact jqe (show sp_name a1 a2 a3 = (-1) by unfold sp_name; (repeat' split) <;> first | rfl | (exfalso; omega)) (hQ _ (by repeat (first | exact FM | refine jFb_si rfl ?_ | refine jFb_sl rfl ?_ | refine jFb_ci rfl ?_ | refine jFb_cl rfl ?_ | refine jFb_sr rfl ?_)) (by repeat (first | exact O | refine jOl_si rfl ?_ | refine jOl_sl rfl ?_ | refine jOl_ci rfl ?_ | refine jOl_cl rfl ?_ | refine jOl_sr rfl ?_)))
      ·
        refine x_aloadn (x := 78) rfl rfl ?_
        refine x_getR (b := 79) 7 7 rfl f_7_27 rfl (congrArg Prod.fst (F.1 78 (7, 16) rfl rfl)) (F.2.1 9991 79 rfl rfl) ?_
        refine x_iloadn (x := a1) rfl rfl ?_
        refine y_iald (v := 0) (N := 600) a1.toNatClampNeg rfl (F.1 79 (100, 600) rfl rfl) (vpi (by omega)) rfl (F.2.2.2.1 79 rfl rfl _).1 ?_
        refine x_iconst (v := (-1)) rfl ki_m1 ?_
        refine x_iceq (tgt := 41) rfl rfl (br_f (by decide) ?_)
        refine x_iconst (v := 1) rfl ki_1 ?_
        refine x_goto (tgt := 42) rfl rfl ?_
        refine x_zret rfl rfl (by first | decide | exact jp_01 _) ?_
        show jX m_X11_name 100 0 0 8 [(0, .ref 31), (1, .int a1), (2, .int a2), (3, .int a3)] [.int 1] _ 0 0 _
        refine x_ifeq (tgt := 25) rfl rfl (br_f (by decide) ?_)
        refine x_iloadn (x := a2) rfl rfl ?_
        refine x_iflt (tgt := 25) rfl rfl (ti_lt (show (a2 : Int32).toInt = a2.toInt from rfl) (show (0 : Int32).toInt = 0 by decide) ⟨fun c4 => ?_, fun c4 => ?_⟩)
        ·
          refine x_iconst (v := (-1)) rfl ki_m1 ?_
          refine x_iret rfl rfl ?_
          exact jqe (show sp_name a1 a2 a3 = (-1) by unfold sp_name; (repeat' split) <;> first | rfl | (exfalso; omega)) (hQ _ (by repeat (first | exact FM | refine jFb_si rfl ?_ | refine jFb_sl rfl ?_ | refine jFb_ci rfl ?_ | refine jFb_cl rfl ?_ | refine jFb_sr rfl ?_)) (by repeat (first | exact O | refine jOl_si rfl ?_ | refine jOl_sl rfl ?_ | refine jOl_ci rfl ?_ | refine jOl_cl rfl ?_ | refine jOl_sr rfl ?_)))
        ·
          refine x_iloadn (x := a2) rfl rfl ?_
          refine x_iconst (v := 1) rfl ki_1 ?_
          refine x_icgt (tgt := 25) rfl rfl (ti_gt (show (a2 : Int32).toInt = a2.toInt from rfl) (show (1 : Int32).toInt = 1 by decide) ⟨fun c5 => ?_, fun c5 => ?_⟩)
          ·
            refine x_iconst (v := (-1)) rfl ki_m1 ?_
            refine x_iret rfl rfl ?_
            exact jqe (show sp_name a1 a2 a3 = (-1) by unfold sp_name; (repeat' split) <;> first | rfl | (exfalso; omega)) (hQ _ (by repeat (first | exact FM | refine jFb_si rfl ?_ | refine jFb_sl rfl ?_ | refine jFb_ci rfl ?_ | refine jFb_cl rfl ?_ | refine jFb_sr rfl ?_)) (by repeat (first | exact O | refine jOl_si rfl ?_ | refine jOl_sl rfl ?_ | refine jOl_ci rfl ?_ | refine jOl_cl rfl ?_ | refine jOl_sr rfl ?_)))
          ·
            refine x_iloadn (x := a3) rfl rfl ?_
            refine x_iconst (v := (-1)) rfl ki_m1 ?_
            refine x_icge (tgt := 27) rfl rfl (ti_ge (show (a3 : Int32).toInt = a3.toInt from rfl) (show ((-1) : Int32).toInt = (-1) by decide) ⟨fun c6 => ?_, fun c6 => ?_⟩)
            ·
              refine x_iconst (v := 0) rfl ki_0 ?_
              refine x_aloadn (x := 31) rfl rfl ?_
              refine x_getR (b := 70) 11 3 rfl f_11_32 rfl (congrArg Prod.fst (F.1 31 (11, 13) rfl rfl)) (F.2.1 3971 70 rfl rfl) ?_
              refine x_iloadn (x := a1) rfl rfl ?_
              refine x_iloadn (x := a2) rfl rfl ?_
              refine x_inv (N := m_X5_lengthOf) (As := [.int a1, .int a2]) (b := 70) (st := [.int 0]) (d' := 99) (mc := 0) (ms := 0) (host := "") 5 rfl t_X5_lengthOf ⟨Or.inl q_11_190, i_X5_lengthOf.1, i_X5_lengthOf.2⟩ ⟨by decide, rfl⟩ (congrArg Prod.fst (F.1 70 (5, 9) rfl rfl)) rfl (by decide) rfl rfl ⟨by decide, by decide⟩ (jC.of rfl k_X5_lengthOf rfl ?_)
              show jX m_X5_lengthOf 99 0 0 0 [(0, .ref 70), (1, .int a1), (2, .int a2)] [] _ 0 0 _
              refine x_iloadn (x := a1) rfl rfl ?_
              refine x_iconst (v := 2) rfl ki_2 ?_
              refine x_imul rfl ?_
              refine x_iloadn (x := a2) rfl rfl ?_
              refine x_iadd rfl ?_
              refine x_istoren (ls' := [(3, .int ((a1 * 2) + a2)), (0, .ref 70), (1, .int a1), (2, .int a2)]) rfl rfl rfl ?_
              refine x_iloadn (x := (a1 * 2) + a2) rfl rfl ?_
              refine x_iflt (tgt := 26) rfl rfl (ti_lt (show ((a1 * 2) + a2 : Int32).toInt = ((a1 * 2) + a2).toInt from rfl) (show (0 : Int32).toInt = 0 by decide) ⟨fun c7 => ?_, fun c7 => ?_⟩)
              ·
                refine x_iconst (v := (-1)) rfl ki_m1 ?_
                refine x_iret rfl rfl ?_
                show jX m_X11_name 100 0 0 37 [(0, .ref 31), (1, .int a1), (2, .int a2), (3, .int a3)] [.int (-1), .int 0] _ 0 0 _
                refine x_inst (N := m_J9_max_7cf53) (As := [.int 0, .int (-1)]) (st := []) (d' := 99) (mc := 0) (ms := 0) (host := "") rfl t_J9_max_7cf53 ⟨Or.inl q_11_193, s_J9_max_7cf53⟩ rfl (by decide) rfl rfl ⟨by decide, by decide⟩ (jC.of rfl k_J9_max_7cf53 rfl ?_)
                show jX m_J9_max_7cf53 99 0 0 0 [(0, .int 0), (1, .int (-1))] [] _ 0 0 _
                refine x_iloadn (x := 0) rfl rfl ?_
                refine x_iloadn (x := (-1)) rfl rfl ?_
                refine x_iclt (tgt := 9) rfl rfl (br_f (by decide) ?_)
                refine x_iloadn (x := 0) rfl rfl ?_
                refine x_goto (tgt := 10) rfl rfl ?_
                refine x_iret rfl rfl ?_
                show jX m_X11_name 100 0 0 40 [(0, .ref 31), (1, .int a1), (2, .int a2), (3, .int a3)] [.int 0] _ 0 0 _
                refine x_istore (ls' := [(4, .int 0), (0, .ref 31), (1, .int a1), (2, .int a2), (3, .int a3)]) rfl rfl rfl ?_
                refine x_iloadn (x := a3) rfl rfl ?_
                refine x_iconst (v := (-1)) rfl ki_m1 ?_
                refine x_icne (tgt := 50) rfl rfl (ti_ne (show (a3 : Int32).toInt = a3.toInt from rfl) (show ((-1) : Int32).toInt = (-1) by decide) ⟨fun c8 => ?_, fun c8 => ?_⟩)
                ·
                  refine x_iloadn (x := a3) rfl rfl ?_
                  refine x_iload (x := 0) rfl rfl ?_
                  refine x_icge (tgt := 69) rfl rfl (ti_ge (show (a3 : Int32).toInt = a3.toInt from rfl) (show (0 : Int32).toInt = 0 by decide) ⟨fun c9 => ?_, fun c9 => ?_⟩)
                  ·
                    refine x_iconst (v := (-1)) rfl ki_m1 ?_
                    refine x_iret rfl rfl ?_
                    exact jqe (show sp_name a1 a2 a3 = (-1) by unfold sp_name; (repeat' split) <;> first | rfl | (exfalso; omega)) (hQ _ (by repeat (first | exact FM | refine jFb_si rfl ?_ | refine jFb_sl rfl ?_ | refine jFb_ci rfl ?_ | refine jFb_cl rfl ?_ | refine jFb_sr rfl ?_)) (by repeat (first | exact O | refine jOl_si rfl ?_ | refine jOl_sl rfl ?_ | refine jOl_ci rfl ?_ | refine jOl_cl rfl ?_ | refine jOl_sr rfl ?_)))
                  ·
                    refine x_aloadn (x := 31) rfl rfl ?_
                    refine x_getR (b := 70) 11 3 rfl f_11_32 rfl (congrArg Prod.fst (F.1 31 (11, 13) rfl rfl)) (F.2.1 3971 70 rfl rfl) ?_
                    refine x_iloadn (x := a1) rfl rfl ?_
                    refine x_iloadn (x := a2) rfl rfl ?_
                    refine x_iloadn (x := a3) rfl rfl ?_
                    refine x_inv (N := m_X5_letterOf) (As := [.int a1, .int a2, .int a3]) (b := 70) (st := []) (d' := 99) (mc := 0) (ms := 0) (host := "") 5 rfl t_X5_letterOf ⟨Or.inl q_11_198, i_X5_letterOf.1, i_X5_letterOf.2⟩ ⟨by decide, rfl⟩ (congrArg Prod.fst (F.1 70 (5, 9) rfl rfl)) rfl (by decide) rfl rfl ⟨by decide, by decide⟩ (jC.of rfl k_X5_letterOf rfl ?_)
                    show jX m_X5_letterOf 99 0 0 0 [(0, .ref 70), (1, .int a1), (2, .int a2), (3, .int a3)] [] _ 0 0 _
                    refine x_iloadn (x := a1) rfl rfl ?_
                    refine x_iconst (v := 2) rfl ki_2 ?_
                    refine x_imul rfl ?_
                    refine x_iloadn (x := a2) rfl rfl ?_
                    refine x_iadd rfl ?_
                    refine x_istore (ls' := [(4, .int ((a1 * 2) + a2)), (0, .ref 70), (1, .int a1), (2, .int a2), (3, .int a3)]) rfl rfl rfl ?_
                    refine x_iload (x := (a1 * 2) + a2) rfl rfl ?_
                    refine x_iflt (tgt := 45) rfl rfl (ti_lt (show ((a1 * 2) + a2 : Int32).toInt = ((a1 * 2) + a2).toInt from rfl) (show (0 : Int32).toInt = 0 by decide) (br_t c7 ?_))
                    refine x_iconst (v := (-1)) rfl ki_m1 ?_
                    refine x_iret rfl rfl ?_
                    show jX m_X11_name 100 0 0 66 [(4, .int 0), (0, .ref 31), (1, .int a1), (2, .int a2), (3, .int a3)] [.int (-1)] _ 0 0 _
                    refine x_goto (tgt := 70) rfl rfl ?_
                    refine x_iret rfl rfl ?_
                    exact jqe (show sp_name a1 a2 a3 = (-1) by unfold sp_name; (repeat' split) <;> first | rfl | (exfalso; omega)) (hQ _ (by repeat (first | exact FM | refine jFb_si rfl ?_ | refine jFb_sl rfl ?_ | refine jFb_ci rfl ?_ | refine jFb_cl rfl ?_ | refine jFb_sr rfl ?_)) (by repeat (first | exact O | refine jOl_si rfl ?_ | refine jOl_sl rfl ?_ | refine jOl_ci rfl ?_ | refine jOl_cl rfl ?_ | refine jOl_sr rfl ?_)))
                ·
                  refine x_iload (x := 0) rfl rfl ?_
                  refine x_iret rfl rfl ?_
                  exact jqe (show sp_name a1 a2 a3 = 0 by unfold sp_name; (repeat' split) <;> first | rfl | (exfalso; omega)) (hQ _ (by repeat (first | exact FM | refine jFb_si rfl ?_ | refine jFb_sl rfl ?_ | refine jFb_ci rfl ?_ | refine jFb_cl rfl ?_ | refine jFb_sr rfl ?_)) (by repeat (first | exact O | refine jOl_si rfl ?_ | refine jOl_sl rfl ?_ | refine jOl_ci rfl ?_ | refine jOl_cl rfl ?_ | refine jOl_sr rfl ?_)))
              ·
                refine x_iloadn (x := (a1 * 2) + a2) rfl rfl ?_
                refine x_sipush (v := 1200) rfl ks_1200 ?_
                refine x_icge (tgt := 26) rfl rfl (ti_ge (show ((a1 * 2) + a2 : Int32).toInt = ((a1 * 2) + a2).toInt from rfl) (show (1200 : Int32).toInt = 1200 by decide) ⟨fun c10 => ?_, fun c10 => ?_⟩)
                ·
                  refine x_iconst (v := (-1)) rfl ki_m1 ?_
                  refine x_iret rfl rfl ?_
                  show jX m_X11_name 100 0 0 37 [(0, .ref 31), (1, .int a1), (2, .int a2), (3, .int a3)] [.int (-1), .int 0] _ 0 0 _
                  refine x_inst (N := m_J9_max_7cf53) (As := [.int 0, .int (-1)]) (st := []) (d' := 99) (mc := 0) (ms := 0) (host := "") rfl t_J9_max_7cf53 ⟨Or.inl q_11_193, s_J9_max_7cf53⟩ rfl (by decide) rfl rfl ⟨by decide, by decide⟩ (jC.of rfl k_J9_max_7cf53 rfl ?_)
                  show jX m_J9_max_7cf53 99 0 0 0 [(0, .int 0), (1, .int (-1))] [] _ 0 0 _
                  refine x_iloadn (x := 0) rfl rfl ?_
                  refine x_iloadn (x := (-1)) rfl rfl ?_
                  refine x_iclt (tgt := 9) rfl rfl (br_f (by decide) ?_)
                  refine x_iloadn (x := 0) rfl rfl ?_
                  refine x_goto (tgt := 10) rfl rfl ?_
                  refine x_iret rfl rfl ?_
                  show jX m_X11_name 100 0 0 40 [(0, .ref 31), (1, .int a1), (2, .int a2), (3, .int a3)] [.int 0] _ 0 0 _
                  refine x_istore (ls' := [(4, .int 0), (0, .ref 31), (1, .int a1), (2, .int a2), (3, .int a3)]) rfl rfl rfl ?_
                  refine x_iloadn (x := a3) rfl rfl ?_
                  refine x_iconst (v := (-1)) rfl ki_m1 ?_
                  refine x_icne (tgt := 50) rfl rfl (ti_ne (show (a3 : Int32).toInt = a3.toInt from rfl) (show ((-1) : Int32).toInt = (-1) by decide) ⟨fun c11 => ?_, fun c11 => ?_⟩)
                  ·
                    refine x_iloadn (x := a3) rfl rfl ?_
                    refine x_iload (x := 0) rfl rfl ?_
                    refine x_icge (tgt := 69) rfl rfl (ti_ge (show (a3 : Int32).toInt = a3.toInt from rfl) (show (0 : Int32).toInt = 0 by decide) ⟨fun c12 => ?_, fun c12 => ?_⟩)
                    ·
                      refine x_iconst (v := (-1)) rfl ki_m1 ?_
                      refine x_iret rfl rfl ?_
                      exact jqe (show sp_name a1 a2 a3 = (-1) by unfold sp_name; (repeat' split) <;> first | rfl | (exfalso; omega)) (hQ _ (by repeat (first | exact FM | refine jFb_si rfl ?_ | refine jFb_sl rfl ?_ | refine jFb_ci rfl ?_ | refine jFb_cl rfl ?_ | refine jFb_sr rfl ?_)) (by repeat (first | exact O | refine jOl_si rfl ?_ | refine jOl_sl rfl ?_ | refine jOl_ci rfl ?_ | refine jOl_cl rfl ?_ | refine jOl_sr rfl ?_)))
                    ·
                      refine x_aloadn (x := 31) rfl rfl ?_
                      refine x_getR (b := 70) 11 3 rfl f_11_32 rfl (congrArg Prod.fst (F.1 31 (11, 13) rfl rfl)) (F.2.1 3971 70 rfl rfl) ?_
                      refine x_iloadn (x := a1) rfl rfl ?_
                      refine x_iloadn (x := a2) rfl rfl ?_
                      refine x_iloadn (x := a3) rfl rfl ?_
                      refine x_inv (N := m_X5_letterOf) (As := [.int a1, .int a2, .int a3]) (b := 70) (st := []) (d' := 99) (mc := 0) (ms := 0) (host := "") 5 rfl t_X5_letterOf ⟨Or.inl q_11_198, i_X5_letterOf.1, i_X5_letterOf.2⟩ ⟨by decide, rfl⟩ (congrArg Prod.fst (F.1 70 (5, 9) rfl rfl)) rfl (by decide) rfl rfl ⟨by decide, by decide⟩ (jC.of rfl k_X5_letterOf rfl ?_)
                      show jX m_X5_letterOf 99 0 0 0 [(0, .ref 70), (1, .int a1), (2, .int a2), (3, .int a3)] [] _ 0 0 _
                      refine x_iloadn (x := a1) rfl rfl ?_
                      refine x_iconst (v := 2) rfl ki_2 ?_
                      refine x_imul rfl ?_
                      refine x_iloadn (x := a2) rfl rfl ?_
                      refine x_iadd rfl ?_
                      refine x_istore (ls' := [(4, .int ((a1 * 2) + a2)), (0, .ref 70), (1, .int a1), (2, .int a2), (3, .int a3)]) rfl rfl rfl ?_
                      refine x_iload (x := (a1 * 2) + a2) rfl rfl ?_
                      refine x_iflt (tgt := 45) rfl rfl (ti_lt (show ((a1 * 2) + a2 : Int32).toInt = ((a1 * 2) + a2).toInt from rfl) (show (0 : Int32).toInt = 0 by decide) (br_f c7 ?_))
                      refine x_iload (x := (a1 * 2) + a2) rfl rfl ?_
                      refine x_sipush (v := 1200) rfl ks_1200 ?_
                      refine x_icge (tgt := 45) rfl rfl (ti_ge (show ((a1 * 2) + a2 : Int32).toInt = ((a1 * 2) + a2).toInt from rfl) (show (1200 : Int32).toInt = 1200 by decide) (br_t c10 ?_))
                      refine x_iconst (v := (-1)) rfl ki_m1 ?_
                      refine x_iret rfl rfl ?_
                      show jX m_X11_name 100 0 0 66 [(4, .int 0), (0, .ref 31), (1, .int a1), (2, .int a2), (3, .int a3)] [.int (-1)] _ 0 0 _
                      refine x_goto (tgt := 70) rfl rfl ?_
                      refine x_iret rfl rfl ?_
                      exact jqe (show sp_name a1 a2 a3 = (-1) by unfold sp_name; (repeat' split) <;> first | rfl | (exfalso; omega)) (hQ _ (by repeat (first | exact FM | refine jFb_si rfl ?_ | refine jFb_sl rfl ?_ | refine jFb_ci rfl ?_ | refine jFb_cl rfl ?_ | refine jFb_sr rfl ?_)) (by repeat (first | exact O | refine jOl_si rfl ?_ | refine jOl_sl rfl ?_ | refine jOl_ci rfl ?_ | refine jOl_cl rfl ?_ | refine jOl_sr rfl ?_)))
                  ·
                    refine x_iload (x := 0) rfl rfl ?_
                    refine x_iret rfl rfl ?_
                    exact jqe (show sp_name a1 a2 a3 = 0 by unfold sp_name; (repeat' split) <;> first | rfl | (exfalso; omega)) (hQ _ (by repeat (first | exact FM | refine jFb_si rfl ?_ | refine jFb_sl rfl ?_ | refine jFb_ci rfl ?_ | refine jFb_cl rfl ?_ | refine jFb_sr rfl ?_)) (by repeat (first | exact O | refine jOl_si rfl ?_ | refine jOl_sl rfl ?_ | refine jOl_ci rfl ?_ | refine jOl_cl rfl ?_ | refine jOl_sr rfl ?_)))
                ·
                  refine x_aloadn (x := 70) rfl rfl ?_
                  refine x_getR (b := 76) 5 7 rfl f_5_28 rfl (congrArg Prod.fst (F.1 70 (5, 9) rfl rfl)) (F.2.1 8967 76 rfl rfl) ?_
                  refine x_iloadn (x := (a1 * 2) + a2) rfl rfl ?_
                  refine y_iald (v := 0) (N := 1200) ((a1 * 2) + a2).toNatClampNeg rfl (F.1 76 (100, 1200) rfl rfl) (vpi (by omega)) rfl (F.2.2.2.1 76 rfl rfl _).1 ?_
                  refine x_goto (tgt := 27) rfl rfl ?_
                  refine x_iret rfl rfl ?_
                  show jX m_X11_name 100 0 0 37 [(0, .ref 31), (1, .int a1), (2, .int a2), (3, .int a3)] [.int 0, .int 0] _ 0 0 _
                  refine x_inst (N := m_J9_max_7cf53) (As := [.int 0, .int 0]) (st := []) (d' := 99) (mc := 0) (ms := 0) (host := "") rfl t_J9_max_7cf53 ⟨Or.inl q_11_193, s_J9_max_7cf53⟩ rfl (by decide) rfl rfl ⟨by decide, by decide⟩ (jC.of rfl k_J9_max_7cf53 rfl ?_)
                  show jX m_J9_max_7cf53 99 0 0 0 [(0, .int 0), (1, .int 0)] [] _ 0 0 _
                  refine x_iloadn (x := 0) rfl rfl ?_
                  refine x_iloadn (x := 0) rfl rfl ?_
                  refine x_iclt (tgt := 9) rfl rfl (br_f (by decide) ?_)
                  refine x_iloadn (x := 0) rfl rfl ?_
                  refine x_goto (tgt := 10) rfl rfl ?_
                  refine x_iret rfl rfl ?_
                  show jX m_X11_name 100 0 0 40 [(0, .ref 31), (1, .int a1), (2, .int a2), (3, .int a3)] [.int 0] _ 0 0 _
                  refine x_istore (ls' := [(4, .int 0), (0, .ref 31), (1, .int a1), (2, .int a2), (3, .int a3)]) rfl rfl rfl ?_
                  refine x_iloadn (x := a3) rfl rfl ?_
                  refine x_iconst (v := (-1)) rfl ki_m1 ?_
                  refine x_icne (tgt := 50) rfl rfl (ti_ne (show (a3 : Int32).toInt = a3.toInt from rfl) (show ((-1) : Int32).toInt = (-1) by decide) ⟨fun c13 => ?_, fun c13 => ?_⟩)
                  ·
                    refine x_iloadn (x := a3) rfl rfl ?_
                    refine x_iload (x := 0) rfl rfl ?_
                    refine x_icge (tgt := 69) rfl rfl (ti_ge (show (a3 : Int32).toInt = a3.toInt from rfl) (show (0 : Int32).toInt = 0 by decide) ⟨fun c14 => ?_, fun c14 => ?_⟩)
                    ·
                      refine x_iconst (v := (-1)) rfl ki_m1 ?_
                      refine x_iret rfl rfl ?_
                      exact jqe (show sp_name a1 a2 a3 = (-1) by unfold sp_name; (repeat' split) <;> first | rfl | (exfalso; omega)) (hQ _ (by repeat (first | exact FM | refine jFb_si rfl ?_ | refine jFb_sl rfl ?_ | refine jFb_ci rfl ?_ | refine jFb_cl rfl ?_ | refine jFb_sr rfl ?_)) (by repeat (first | exact O | refine jOl_si rfl ?_ | refine jOl_sl rfl ?_ | refine jOl_ci rfl ?_ | refine jOl_cl rfl ?_ | refine jOl_sr rfl ?_)))
                    ·
                      refine x_aloadn (x := 31) rfl rfl ?_
                      refine x_getR (b := 70) 11 3 rfl f_11_32 rfl (congrArg Prod.fst (F.1 31 (11, 13) rfl rfl)) (F.2.1 3971 70 rfl rfl) ?_
                      refine x_iloadn (x := a1) rfl rfl ?_
                      refine x_iloadn (x := a2) rfl rfl ?_
                      refine x_iloadn (x := a3) rfl rfl ?_
                      refine x_inv (N := m_X5_letterOf) (As := [.int a1, .int a2, .int a3]) (b := 70) (st := []) (d' := 99) (mc := 0) (ms := 0) (host := "") 5 rfl t_X5_letterOf ⟨Or.inl q_11_198, i_X5_letterOf.1, i_X5_letterOf.2⟩ ⟨by decide, rfl⟩ (congrArg Prod.fst (F.1 70 (5, 9) rfl rfl)) rfl (by decide) rfl rfl ⟨by decide, by decide⟩ (jC.of rfl k_X5_letterOf rfl ?_)
                      show jX m_X5_letterOf 99 0 0 0 [(0, .ref 70), (1, .int a1), (2, .int a2), (3, .int a3)] [] _ 0 0 _
                      refine x_iloadn (x := a1) rfl rfl ?_
                      refine x_iconst (v := 2) rfl ki_2 ?_
                      refine x_imul rfl ?_
                      refine x_iloadn (x := a2) rfl rfl ?_
                      refine x_iadd rfl ?_
                      refine x_istore (ls' := [(4, .int ((a1 * 2) + a2)), (0, .ref 70), (1, .int a1), (2, .int a2), (3, .int a3)]) rfl rfl rfl ?_
                      refine x_iload (x := (a1 * 2) + a2) rfl rfl ?_
                      refine x_iflt (tgt := 45) rfl rfl (ti_lt (show ((a1 * 2) + a2 : Int32).toInt = ((a1 * 2) + a2).toInt from rfl) (show (0 : Int32).toInt = 0 by decide) (br_f c7 ?_))
                      refine x_iload (x := (a1 * 2) + a2) rfl rfl ?_
                      refine x_sipush (v := 1200) rfl ks_1200 ?_
                      refine x_icge (tgt := 45) rfl rfl (ti_ge (show ((a1 * 2) + a2 : Int32).toInt = ((a1 * 2) + a2).toInt from rfl) (show (1200 : Int32).toInt = 1200 by decide) (br_f c10 ?_))
                      refine x_iloadn (x := a3) rfl rfl ?_
                      refine x_iflt (tgt := 45) rfl rfl (ti_lt (show (a3 : Int32).toInt = a3.toInt from rfl) (show (0 : Int32).toInt = 0 by decide) ⟨fun c15 => ?_, fun c15 => ?_⟩)
                      ·
                        refine x_iconst (v := (-1)) rfl ki_m1 ?_
                        refine x_iret rfl rfl ?_
                        show jX m_X11_name 100 0 0 66 [(4, .int 0), (0, .ref 31), (1, .int a1), (2, .int a2), (3, .int a3)] [.int (-1)] _ 0 0 _
                        refine x_goto (tgt := 70) rfl rfl ?_
                        refine x_iret rfl rfl ?_
                        exact jqe (show sp_name a1 a2 a3 = (-1) by unfold sp_name; (repeat' split) <;> first | rfl | (exfalso; omega)) (hQ _ (by repeat (first | exact FM | refine jFb_si rfl ?_ | refine jFb_sl rfl ?_ | refine jFb_ci rfl ?_ | refine jFb_cl rfl ?_ | refine jFb_sr rfl ?_)) (by repeat (first | exact O | refine jOl_si rfl ?_ | refine jOl_sl rfl ?_ | refine jOl_ci rfl ?_ | refine jOl_cl rfl ?_ | refine jOl_sr rfl ?_)))
                      ·
                        refine x_iloadn (x := a3) rfl rfl ?_
                        refine x_bipush (v := 36) rfl kb_36 ?_
                        refine x_icge (tgt := 45) rfl rfl (ti_ge (show (a3 : Int32).toInt = a3.toInt from rfl) (show (36 : Int32).toInt = 36 by decide) ⟨fun c16 => ?_, fun c16 => ?_⟩)
                        ·
                          refine x_iconst (v := (-1)) rfl ki_m1 ?_
                          refine x_iret rfl rfl ?_
                          show jX m_X11_name 100 0 0 66 [(4, .int 0), (0, .ref 31), (1, .int a1), (2, .int a2), (3, .int a3)] [.int (-1)] _ 0 0 _
                          refine x_goto (tgt := 70) rfl rfl ?_
                          refine x_iret rfl rfl ?_
                          exact jqe (show sp_name a1 a2 a3 = (-1) by unfold sp_name; (repeat' split) <;> first | rfl | (exfalso; omega)) (hQ _ (by repeat (first | exact FM | refine jFb_si rfl ?_ | refine jFb_sl rfl ?_ | refine jFb_ci rfl ?_ | refine jFb_cl rfl ?_ | refine jFb_sr rfl ?_)) (by repeat (first | exact O | refine jOl_si rfl ?_ | refine jOl_sl rfl ?_ | refine jOl_ci rfl ?_ | refine jOl_cl rfl ?_ | refine jOl_sr rfl ?_)))
                        ·
                          refine x_aloadn (x := 70) rfl rfl ?_
                          refine x_getR (b := 75) 5 6 rfl f_5_25 rfl (congrArg Prod.fst (F.1 70 (5, 9) rfl rfl)) (F.2.1 8966 75 rfl rfl) ?_
                          refine x_iload (x := (a1 * 2) + a2) rfl rfl ?_
                          refine x_bipush (v := 36) rfl kb_36 ?_
                          refine x_imul rfl ?_
                          refine x_iloadn (x := a3) rfl rfl ?_
                          refine x_iadd rfl ?_
                          refine y_iald (v := 0) (N := 43200) ((((a1 * 2) + a2) * 36) + a3).toNatClampNeg rfl (F.1 75 (100, 43200) rfl rfl) (vpi (by omega)) rfl (F.2.2.2.1 75 rfl rfl _).1 ?_
                          refine x_goto (tgt := 46) rfl rfl ?_
                          refine x_iret rfl rfl ?_
                          show jX m_X11_name 100 0 0 66 [(4, .int 0), (0, .ref 31), (1, .int a1), (2, .int a2), (3, .int a3)] [.int 0] _ 0 0 _
                          refine x_goto (tgt := 70) rfl rfl ?_
                          refine x_iret rfl rfl ?_
                          exact jqe (show sp_name a1 a2 a3 = 0 by unfold sp_name; (repeat' split) <;> first | rfl | (exfalso; omega)) (hQ _ (by repeat (first | exact FM | refine jFb_si rfl ?_ | refine jFb_sl rfl ?_ | refine jFb_ci rfl ?_ | refine jFb_cl rfl ?_ | refine jFb_sr rfl ?_)) (by repeat (first | exact O | refine jOl_si rfl ?_ | refine jOl_sl rfl ?_ | refine jOl_ci rfl ?_ | refine jOl_cl rfl ?_ | refine jOl_sr rfl ?_)))
                  ·
                    refine x_iload (x := 0) rfl rfl ?_
                    refine x_iret rfl rfl ?_
                    exact jqe (show sp_name a1 a2 a3 = 0 by unfold sp_name; (repeat' split) <;> first | rfl | (exfalso; omega)) (hQ _ (by repeat (first | exact FM | refine jFb_si rfl ?_ | refine jFb_sl rfl ?_ | refine jFb_ci rfl ?_ | refine jFb_cl rfl ?_ | refine jFb_sr rfl ?_)) (by repeat (first | exact O | refine jOl_si rfl ?_ | refine jOl_sl rfl ?_ | refine jOl_ci rfl ?_ | refine jOl_cl rfl ?_ | refine jOl_sr rfl ?_)))
            ·
              refine x_iconst (v := (-1)) rfl ki_m1 ?_
              refine x_iret rfl rfl ?_
              exact jqe (show sp_name a1 a2 a3 = (-1) by unfold sp_name; (repeat' split) <;> first | rfl | (exfalso; omega)) (hQ _ (by repeat (first | exact FM | refine jFb_si rfl ?_ | refine jFb_sl rfl ?_ | refine jFb_ci rfl ?_ | refine jFb_cl rfl ?_ | refine jFb_sr rfl ?_)) (by repeat (first | exact O | refine jOl_si rfl ?_ | refine jOl_sl rfl ?_ | refine jOl_ci rfl ?_ | refine jOl_cl rfl ?_ | refine jOl_sr rfl ?_)))
set_option maxRecDepth 100000 in
set_option maxHeartbeats 40000000 in
theorem pm_name (a1 a2 a3 : Int32) {xs : Nat → Int32} {h : jH} {Q : Option Value → jH → Prop} (F : jFb 125 h) (O : jOl 7 xs h) (hQ : ∀ h', jOl 7 xs h' → Q (some (.int (sp_name a1 a2 a3))) h') : jC m_X12_name 100 0 0 [.ref 125, .int a1, .int a2, .int a3] h Q := by
  refine jC.of rfl k_X12_name rfl ?_
  show jX m_X12_name 100 0 0 0 [(0, .ref 125), (1, .int a1), (2, .int a2), (3, .int a3)] [] _ 0 0 _
  refine x_aloadn (x := 125) rfl rfl ?_
  refine x_iconst (v := 0) rfl ki_0 ?_
  refine x_putI 12 0 rfl f_12_180 rfl (jfin_no TX12 RX12 92 rfl rfl) (congrArg Prod.fst (F.1 125 (12, 92) rfl rfl)) rfl ?_
  refine x_aloadn (x := 125) rfl rfl ?_
  refine x_iloadn (x := a1) rfl rfl ?_
  refine x_inv (N := m_X12_isMention) (As := [.int a1]) (b := 125) (st := []) (d' := 99) (mc := 0) (ms := 0) (host := "") 12 rfl t_X12_isMention ⟨Or.inl q_12_322, i_X12_isMention.1, i_X12_isMention.2⟩ ⟨by decide, rfl⟩ (congrArg Prod.fst (F.1 125 (12, 92) rfl rfl)) rfl (by decide) rfl rfl ⟨by decide, by decide⟩ (jC.of rfl k_X12_isMention rfl ?_)
  show jX m_X12_isMention 99 0 0 0 [(0, .ref 125), (1, .int a1)] [] _ 0 0 _
  refine x_iloadn (x := a1) rfl rfl ?_
  refine x_iflt (tgt := 34) rfl rfl (ti_lt (show (a1 : Int32).toInt = a1.toInt from rfl) (show (0 : Int32).toInt = 0 by decide) ⟨fun c1 => ?_, fun c1 => ?_⟩)
  ·
    refine x_iconst (v := 0) rfl ki_0 ?_
    refine x_zret rfl rfl (by first | decide | exact jp_01 _) ?_
    show jX m_X12_name 100 0 0 10 [(0, .ref 125), (1, .int a1), (2, .int a2), (3, .int a3)] [.int 0] _ 0 0 _
    refine x_ifeq (tgt := 23) rfl rfl (br_t (by decide) ?_)
    refine x_iconst (v := (-1)) rfl ki_m1 ?_
    refine x_iret rfl rfl ?_
    exact jqe (show sp_name a1 a2 a3 = (-1) by unfold sp_name; (repeat' split) <;> first | rfl | (exfalso; omega)) (hQ _ (by repeat (first | exact O | refine jOl_si rfl ?_ | refine jOl_sl rfl ?_ | refine jOl_ci rfl ?_ | refine jOl_cl rfl ?_ | refine jOl_sr rfl ?_)))
  ·
    refine x_aloadn (x := 125) rfl rfl ?_
    refine x_iloadn (x := a1) rfl rfl ?_
    refine x_iconst (v := 3) rfl ki_3 ?_
    refine x_idiv rfl (by decide) ?_
    refine x_inv (N := m_X12_isLine) (As := [.int (a1 / 3)]) (b := 125) (st := []) (d' := 98) (mc := 0) (ms := 0) (host := "") 12 rfl t_X12_isLine ⟨Or.inl q_12_293, i_X12_isLine.1, i_X12_isLine.2⟩ ⟨by decide, rfl⟩ (congrArg Prod.fst (F.1 125 (12, 92) rfl rfl)) rfl (by decide) rfl rfl ⟨by decide, by decide⟩ (jC.of rfl k_X12_isLine rfl ?_)
    show jX m_X12_isLine 98 0 0 0 [(0, .ref 125), (1, .int (a1 / 3))] [] _ 0 0 _
    refine x_iloadn (x := a1 / 3) rfl rfl ?_
    refine x_i2l rfl ?_
    refine x_lconst (v := 0) rfl kl_0 ?_
    refine x_aloadn (x := 125) rfl rfl ?_
    refine x_getR (b := 126) 12 2 rfl f_12_8 rfl (congrArg Prod.fst (F.1 125 (12, 92) rfl rfl)) (F.2.1 16002 126 rfl rfl) ?_
    refine x_iconst (v := 0) rfl ki_0 ?_
    refine y_iald (v := 0) (N := 50660) 0 rfl (F.1 126 (100, 50660) rfl rfl) (jinb_of (by decide)) (by decide) (F.2.2.2.1 126 rfl rfl 0).1 ?_
    refine y_i2l (v := 0) rfl (by decide) ?_
    refine x_lconst (v := 1) rfl kl_1 ?_
    refine y_lsub (v := (-1)) rfl (by decide) ?_
    refine x_inst (N := m_X12_in) (As := [.long ((a1 / 3).toInt64), .long 0, .long (-1)]) (st := []) (d' := 97) (mc := 0) (ms := 0) (host := "") rfl t_X12_in ⟨Or.inl q_12_188, s_X12_in⟩ rfl (by decide) rfl rfl ⟨by decide, by decide⟩ (c_X12_in (jt_l _) (by decide) (by decide) ?_)
    show jX m_X12_isLine 98 0 0 15 [(0, .ref 125), (1, .int (a1 / 3))] [.int (jp (0 ≤ (a1 / 3).toInt ∧ (a1 / 3).toInt ≤ (-1)))] _ 0 0 _
    refine x_zret rfl rfl (by first | decide | exact jp_01 _) ?_
    show jX m_X12_isMention 99 0 0 11 [(0, .ref 125), (1, .int a1)] [.int (jp (0 ≤ (a1 / 3).toInt ∧ (a1 / 3).toInt ≤ (-1)))] _ 0 0 _
    refine x_ifeq (tgt := 34) rfl rfl (jpe ⟨fun c2 => ?_, fun c2 => ?_⟩)
    ·
      refine x_iconst (v := 0) rfl ki_0 ?_
      refine x_zret rfl rfl (by first | decide | exact jp_01 _) ?_
      show jX m_X12_name 100 0 0 10 [(0, .ref 125), (1, .int a1), (2, .int a2), (3, .int a3)] [.int 0] _ 0 0 _
      refine x_ifeq (tgt := 23) rfl rfl (br_t (by decide) ?_)
      refine x_iconst (v := (-1)) rfl ki_m1 ?_
      refine x_iret rfl rfl ?_
      exact jqe (show sp_name a1 a2 a3 = (-1) by unfold sp_name; (repeat' split) <;> first | rfl | (exfalso; omega)) (hQ _ (by repeat (first | exact O | refine jOl_si rfl ?_ | refine jOl_sl rfl ?_ | refine jOl_ci rfl ?_ | refine jOl_cl rfl ?_ | refine jOl_sr rfl ?_)))
    ·
      refine x_iloadn (x := a1) rfl rfl ?_
      refine x_iconst (v := 3) rfl ki_3 ?_
      refine x_irem rfl (by decide) ?_
      refine x_aloadn (x := 125) rfl rfl ?_
      refine x_iloadn (x := a1) rfl rfl ?_
      refine x_iconst (v := 3) rfl ki_3 ?_
      refine x_idiv rfl (by decide) ?_
      refine x_inv (N := m_X12_bookOf) (As := [.int (a1 / 3)]) (b := 125) (st := [.int (a1 - a1 / 3 * 3)]) (d' := 98) (mc := 0) (ms := 0) (host := "") 12 rfl t_X12_bookOf ⟨Or.inl q_12_299, i_X12_bookOf.1, i_X12_bookOf.2⟩ ⟨by decide, rfl⟩ (congrArg Prod.fst (F.1 125 (12, 92) rfl rfl)) rfl (by decide) rfl rfl ⟨by decide, by decide⟩ (jC.of rfl k_X12_bookOf rfl ?_)
      show jX m_X12_bookOf 98 0 0 0 [(0, .ref 125), (1, .int (a1 / 3))] [] _ 0 0 _
      refine x_aloadn (x := 125) rfl rfl ?_
      refine x_getR (b := 126) 12 2 rfl f_12_8 rfl (congrArg Prod.fst (F.1 125 (12, 92) rfl rfl)) (F.2.1 16002 126 rfl rfl) ?_
      refine x_aloadn (x := 125) rfl rfl ?_
      refine x_iloadn (x := a1 / 3) rfl rfl ?_
      refine x_inv (N := m_X12_at) (As := [.int (a1 / 3)]) (b := 125) (st := [.ref 126]) (d' := 97) (mc := 0) (ms := 0) (host := "") 12 rfl t_X12_at ⟨Or.inl q_12_254, i_X12_at.1, i_X12_at.2⟩ ⟨by decide, rfl⟩ (congrArg Prod.fst (F.1 125 (12, 92) rfl rfl)) rfl (by decide) rfl rfl ⟨by decide, by decide⟩ (jC.of rfl k_X12_at rfl ?_)
      show jX m_X12_at 97 0 0 0 [(0, .ref 125), (1, .int (a1 / 3))] [] _ 0 0 _
      refine x_bipush (v := 20) rfl kb_20 ?_
      refine x_bipush (v := 90) rfl kb_90 ?_
      refine x_iloadn (x := a1 / 3) rfl rfl ?_
      refine x_imul rfl ?_
      refine x_iadd rfl ?_
      refine x_iret rfl rfl ?_
      show jX m_X12_bookOf 98 0 0 9 [(0, .ref 125), (1, .int (a1 / 3))] [.int (20 + (90 * (a1 / 3))), .ref 126] _ 0 0 _
      refine y_iald (v := 0) (N := 50660) (20 + (90 * (a1 / 3))).toNatClampNeg rfl (F.1 126 (100, 50660) rfl rfl) (vpi (by omega)) rfl (F.2.2.2.1 126 rfl rfl _).1 ?_
      refine x_iret rfl rfl ?_
      show jX m_X12_isMention 99 0 0 24 [(0, .ref 125), (1, .int a1)] [.int 0, .int (a1 - a1 / 3 * 3)] _ 0 0 _
      refine x_inst (N := m_X12_rolesOf) (As := [.int 0]) (st := [.int (a1 - a1 / 3 * 3)]) (d' := 98) (mc := 0) (ms := 0) (host := "") rfl t_X12_rolesOf ⟨Or.inl q_12_286, s_X12_rolesOf⟩ rfl (by decide) rfl rfl ⟨by decide, by decide⟩ (jC.of rfl k_X12_rolesOf rfl ?_)
      show jX m_X12_rolesOf 98 0 0 0 [(0, .int 0)] [] _ 0 0 _
      refine x_iloadn (x := 0) rfl rfl ?_
      refine x_ifne (tgt := 8) rfl rfl (bn_f (by decide) ?_)
      refine x_iconst (v := 3) rfl ki_3 ?_
      refine x_goto (tgt := 18) rfl rfl ?_
      refine x_iret rfl rfl ?_
      show jX m_X12_isMention 99 0 0 27 [(0, .ref 125), (1, .int a1)] [.int 3, .int (a1 - a1 / 3 * 3)] _ 0 0 _
      refine x_icge (tgt := 34) rfl rfl (ti_ge (show (a1 - a1 / 3 * 3 : Int32).toInt = (a1 - a1 / 3 * 3).toInt from rfl) (show (3 : Int32).toInt = 3 by decide) ⟨fun c3 => ?_, fun c3 => ?_⟩)
      ·
        refine x_iconst (v := 0) rfl ki_0 ?_
        refine x_zret rfl rfl (by first | decide | exact jp_01 _) ?_
        show jX m_X12_name 100 0 0 10 [(0, .ref 125), (1, .int a1), (2, .int a2), (3, .int a3)] [.int 0] _ 0 0 _
        refine x_ifeq (tgt := 23) rfl rfl (br_t (by decide) ?_)
        refine x_iconst (v := (-1)) rfl ki_m1 ?_
        refine x_iret rfl rfl ?_
        exact jqe (show sp_name a1 a2 a3 = (-1) by unfold sp_name; (repeat' split) <;> first | rfl | (exfalso; omega)) (hQ _ (by repeat (first | exact O | refine jOl_si rfl ?_ | refine jOl_sl rfl ?_ | refine jOl_ci rfl ?_ | refine jOl_cl rfl ?_ | refine jOl_sr rfl ?_)))
      ·
        refine x_iconst (v := 1) rfl ki_1 ?_
        refine x_goto (tgt := 35) rfl rfl ?_
        refine x_zret rfl rfl (by first | decide | exact jp_01 _) ?_
        show jX m_X12_name 100 0 0 10 [(0, .ref 125), (1, .int a1), (2, .int a2), (3, .int a3)] [.int 1] _ 0 0 _
        refine x_ifeq (tgt := 23) rfl rfl (br_f (by decide) ?_)
        refine x_iloadn (x := a2) rfl rfl ?_
        refine x_i2l rfl ?_
        refine x_lconst (v := 0) rfl kl_0 ?_
        refine x_lconst (v := 1) rfl kl_1 ?_
        refine x_inst (N := m_X12_in) (As := [.long (a2.toInt64), .long 0, .long 1]) (st := []) (d' := 99) (mc := 0) (ms := 0) (host := "") rfl t_X12_in ⟨Or.inl q_12_188, s_X12_in⟩ rfl (by decide) rfl rfl ⟨by decide, by decide⟩ (c_X12_in (jt_l _) (by decide) (by decide) ?_)
        show jX m_X12_name 100 0 0 20 [(0, .ref 125), (1, .int a1), (2, .int a2), (3, .int a3)] [.int (jp (0 ≤ a2.toInt ∧ a2.toInt ≤ 1))] _ 0 0 _
        refine x_ifne (tgt := 25) rfl rfl (jpn ⟨fun c4 => ?_, fun c4 => ?_⟩)
        ·
          refine x_aloadn (x := 125) rfl rfl ?_
          refine x_iloadn (x := a1) rfl rfl ?_
          refine x_iloadn (x := a2) rfl rfl ?_
          refine x_iconst (v := 0) rfl ki_0 ?_
          refine x_inv (N := m_X12_fold) (As := [.int a1, .int a2, .int 0]) (b := 125) (st := []) (d' := 99) (mc := 0) (ms := 0) (host := "") 12 rfl t_X12_fold ⟨Or.inl q_12_325, i_X12_fold.1, i_X12_fold.2⟩ ⟨by decide, rfl⟩ (congrArg Prod.fst (F.1 125 (12, 92) rfl rfl)) rfl (by decide) rfl rfl ⟨by decide, by decide⟩ (jC.of rfl k_X12_fold rfl ?_)
          show jX m_X12_fold 99 0 0 0 [(0, .ref 125), (1, .int a1), (2, .int a2), (3, .int 0)] [] _ 0 0 _
          refine x_aloadn (x := 125) rfl rfl ?_
          refine x_iloadn (x := a1) rfl rfl ?_
          refine x_iloadn (x := a2) rfl rfl ?_
          refine x_inv (N := m_X12_nameAt) (As := [.int a1, .int a2]) (b := 125) (st := []) (d' := 98) (mc := 0) (ms := 0) (host := "") 12 rfl t_X12_nameAt ⟨Or.inl q_12_311, i_X12_nameAt.1, i_X12_nameAt.2⟩ ⟨by decide, rfl⟩ (congrArg Prod.fst (F.1 125 (12, 92) rfl rfl)) rfl (by decide) rfl rfl ⟨by decide, by decide⟩ (jC.of rfl k_X12_nameAt rfl ?_)
          show jX m_X12_nameAt 98 0 0 0 [(0, .ref 125), (1, .int a1), (2, .int a2)] [] _ 0 0 _
          refine x_aloadn (x := 125) rfl rfl ?_
          refine x_iloadn (x := a1) rfl rfl ?_
          refine x_iconst (v := 3) rfl ki_3 ?_
          refine x_idiv rfl (by decide) ?_
          refine x_inv (N := m_X12_at) (As := [.int (a1 / 3)]) (b := 125) (st := []) (d' := 97) (mc := 0) (ms := 0) (host := "") 12 rfl t_X12_at ⟨Or.inl q_12_254, i_X12_at.1, i_X12_at.2⟩ ⟨by decide, rfl⟩ (congrArg Prod.fst (F.1 125 (12, 92) rfl rfl)) rfl (by decide) rfl rfl ⟨by decide, by decide⟩ (jC.of rfl k_X12_at rfl ?_)
          show jX m_X12_at 97 0 0 0 [(0, .ref 125), (1, .int (a1 / 3))] [] _ 0 0 _
          refine x_bipush (v := 20) rfl kb_20 ?_
          refine x_bipush (v := 90) rfl kb_90 ?_
          refine x_iloadn (x := a1 / 3) rfl rfl ?_
          refine x_imul rfl ?_
          refine x_iadd rfl ?_
          refine x_iret rfl rfl ?_
          show jX m_X12_nameAt 98 0 0 7 [(0, .ref 125), (1, .int a1), (2, .int a2)] [.int (20 + (90 * (a1 / 3)))] _ 0 0 _
          refine x_bipush (v := 6) rfl kb_6 ?_
          refine x_iadd rfl ?_
          refine x_bipush (v := 28) rfl kb_28 ?_
          refine x_iloadn (x := a1) rfl rfl ?_
          refine x_iconst (v := 3) rfl ki_3 ?_
          refine x_irem rfl (by decide) ?_
          refine x_imul rfl ?_
          refine x_iadd rfl ?_
          refine x_bipush (v := 14) rfl kb_14 ?_
          refine x_iloadn (x := a2) rfl rfl ?_
          refine x_imul rfl ?_
          refine x_iadd rfl ?_
          refine x_iret rfl rfl ?_
          show jX m_X12_fold 99 0 0 6 [(0, .ref 125), (1, .int a1), (2, .int a2), (3, .int 0)] [.int (((20 + (90 * (a1 / 3))) + 6) + (28 * (a1 - a1 / 3 * 3))) + (14 * a2)] _ 0 0 _
          refine x_istore (ls' := [(4, .int (((20 + (90 * (a1 / 3))) + 6) + (28 * (a1 - a1 / 3 * 3))) + (14 * a2)), (0, .ref 125), (1, .int a1), (2, .int a2), (3, .int 0)]) rfl rfl rfl ?_
          refine x_aloadn (x := 125) rfl rfl ?_
          refine x_getR (b := 126) 12 2 rfl f_12_8 rfl (congrArg Prod.fst (F.1 125 (12, 92) rfl rfl)) (F.2.1 16002 126 rfl rfl) ?_
          refine x_aloadn (x := 125) rfl rfl ?_
          refine x_iloadn (x := a1) rfl rfl ?_
          refine x_iconst (v := 3) rfl ki_3 ?_
          refine x_idiv rfl (by decide) ?_
          refine x_inv (N := m_X12_at) (As := [.int (a1 / 3)]) (b := 125) (st := [.ref 126]) (d' := 98) (mc := 0) (ms := 0) (host := "") 12 rfl t_X12_at ⟨Or.inl q_12_254, i_X12_at.1, i_X12_at.2⟩ ⟨by decide, rfl⟩ (congrArg Prod.fst (F.1 125 (12, 92) rfl rfl)) rfl (by decide) rfl rfl ⟨by decide, by decide⟩ (jC.of rfl k_X12_at rfl ?_)
          show jX m_X12_at 98 0 0 0 [(0, .ref 125), (1, .int (a1 / 3))] [] _ 0 0 _
          refine x_bipush (v := 20) rfl kb_20 ?_
          refine x_bipush (v := 90) rfl kb_90 ?_
          refine x_iloadn (x := a1 / 3) rfl rfl ?_
          refine x_imul rfl ?_
          refine x_iadd rfl ?_
          refine x_iret rfl rfl ?_
          show jX m_X12_fold 99 0 0 19 [(4, .int (((20 + (90 * (a1 / 3))) + 6) + (28 * (a1 - a1 / 3 * 3))) + (14 * a2)), (0, .ref 125), (1, .int a1), (2, .int a2), (3, .int 0)] [.int (20 + (90 * (a1 / 3))), .ref 126] _ 0 0 _
          refine x_iconst (v := 1) rfl ki_1 ?_
          refine x_iadd rfl ?_
          refine y_iald (v := 0) (N := 50660) ((20 + (90 * (a1 / 3))) + 1).toNatClampNeg rfl (F.1 126 (100, 50660) rfl rfl) (vpi (by omega)) rfl (F.2.2.2.1 126 rfl rfl _).1 ?_
          refine x_istore (ls' := [(5, .int 0), (4, .int (((20 + (90 * (a1 / 3))) + 6) + (28 * (a1 - a1 / 3 * 3))) + (14 * a2)), (0, .ref 125), (1, .int a1), (2, .int a2), (3, .int 0)]) rfl rfl rfl ?_
          refine x_iconst (v := 0) rfl ki_0 ?_
          refine x_istore (ls' := [(6, .int 0), (5, .int 0), (4, .int (((20 + (90 * (a1 / 3))) + 6) + (28 * (a1 - a1 / 3 * 3))) + (14 * a2)), (0, .ref 125), (1, .int a1), (2, .int a2), (3, .int 0)]) rfl rfl rfl ?_
          refine x_iconst (v := 0) rfl ki_0 ?_
          refine x_istore (ls' := [(7, .int 0), (6, .int 0), (5, .int 0), (4, .int (((20 + (90 * (a1 / 3))) + 6) + (28 * (a1 - a1 / 3 * 3))) + (14 * a2)), (0, .ref 125), (1, .int a1), (2, .int a2), (3, .int 0)]) rfl rfl rfl ?_
          refine x_iload (x := 0) rfl rfl ?_
          refine x_aloadn (x := 125) rfl rfl ?_
          refine x_getR (b := 126) 12 2 rfl f_12_8 rfl (congrArg Prod.fst (F.1 125 (12, 92) rfl rfl)) (F.2.1 16002 126 rfl rfl) ?_
          refine x_iload (x := (((20 + (90 * (a1 / 3))) + 6) + (28 * (a1 - a1 / 3 * 3))) + (14 * a2)) rfl rfl ?_
          refine y_iald (v := 0) (N := 50660) ((((20 + (90 * (a1 / 3))) + 6) + (28 * (a1 - a1 / 3 * 3))) + (14 * a2)).toNatClampNeg rfl (F.1 126 (100, 50660) rfl rfl) (vpi (by omega)) rfl (F.2.2.2.1 126 rfl rfl _).1 ?_
          refine x_icge (tgt := 221) rfl rfl (br_t (by decide) ?_)
          refine x_aloadn (x := 125) rfl rfl ?_
          refine x_getR (b := 138) 12 22 rfl f_12_54 rfl (congrArg Prod.fst (F.1 125 (12, 92) rfl rfl)) (F.2.1 16022 138 rfl rfl) ?_
          refine x_iloadn (x := 0) rfl rfl ?_
          refine x_iload (x := 0) rfl rfl ?_
          refine y_iast (N := 2) 0 rfl (F.1 138 (100, 2) rfl rfl) rfl (jinb_of (by decide)) (by decide) ?_
          refine x_vret rfl rfl ?_
          show jX m_X12_name 100 0 0 32 [(0, .ref 125), (1, .int a1), (2, .int a2), (3, .int a3)] [] _ 0 0 _
          refine x_iloadn (x := a3) rfl rfl ?_
          refine x_iconst (v := (-1)) rfl ki_m1 ?_
          refine x_icne (tgt := 46) rfl rfl (ti_ne (show (a3 : Int32).toInt = a3.toInt from rfl) (show ((-1) : Int32).toInt = (-1) by decide) ⟨fun c5 => ?_, fun c5 => ?_⟩)
          ·
            refine x_iloadn (x := a3) rfl rfl ?_
            refine x_i2l rfl ?_
            refine x_lconst (v := 0) rfl kl_0 ?_
            refine x_aloadn (x := 125) rfl rfl ?_
            refine x_getR (b := 138) 12 22 rfl f_12_54 rfl (congrArg Prod.fst (F.1 125 (12, 92) rfl rfl)) (F.2.1 16022 138 rfl rfl) ?_
            refine x_iconst (v := 0) rfl ki_0 ?_
            refine y_iald (v := 0) (N := 2) 0 rfl (F.1 138 (100, 2) rfl rfl) (jinb_of (by decide)) (by decide) rfl ?_
            refine y_i2l (v := 0) rfl (by decide) ?_
            refine x_lconst (v := 1) rfl kl_1 ?_
            refine y_lsub (v := (-1)) rfl (by decide) ?_
            refine x_inst (N := m_X12_in) (As := [.long (a3.toInt64), .long 0, .long (-1)]) (st := []) (d' := 99) (mc := 0) (ms := 0) (host := "") rfl t_X12_in ⟨Or.inl q_12_188, s_X12_in⟩ rfl (by decide) rfl rfl ⟨by decide, by decide⟩ (c_X12_in (jt_l _) (by decide) (by decide) ?_)
            show jX m_X12_name 100 0 0 61 [(0, .ref 125), (1, .int a1), (2, .int a2), (3, .int a3)] [.int (jp (0 ≤ a3.toInt ∧ a3.toInt ≤ (-1)))] _ 0 0 _
            refine x_ifeq (tgt := 73) rfl rfl (jpe ⟨fun c6 => ?_, fun c6 => ?_⟩)
            ·
              refine x_iconst (v := (-1)) rfl ki_m1 ?_
              refine x_iret rfl rfl ?_
              exact jqe (show sp_name a1 a2 a3 = (-1) by unfold sp_name; (repeat' split) <;> first | rfl | (exfalso; omega)) (hQ _ (by repeat (first | exact O | refine jOl_si rfl ?_ | refine jOl_sl rfl ?_ | refine jOl_ci rfl ?_ | refine jOl_cl rfl ?_ | refine jOl_sr rfl ?_)))
            ·
              refine x_aloadn (x := 125) rfl rfl ?_
              refine x_getR (b := 137) 12 21 rfl f_12_51 rfl (congrArg Prod.fst (F.1 125 (12, 92) rfl rfl)) (F.2.1 16021 137 rfl rfl) ?_
              refine x_iloadn (x := a3) rfl rfl ?_
              refine y_iald (v := 0) (N := 80) a3.toNatClampNeg rfl (F.1 137 (100, 80) rfl rfl) (vpi (by omega)) rfl (F.2.2.2.1 137 rfl rfl _).1 ?_
              refine x_goto (tgt := 74) rfl rfl ?_
              refine x_iret rfl rfl ?_
              exact jqe (show sp_name a1 a2 a3 = 0 by unfold sp_name; (repeat' split) <;> first | rfl | (exfalso; omega)) (hQ _ (by repeat (first | exact O | refine jOl_si rfl ?_ | refine jOl_sl rfl ?_ | refine jOl_ci rfl ?_ | refine jOl_cl rfl ?_ | refine jOl_sr rfl ?_)))
          ·
            refine x_aloadn (x := 125) rfl rfl ?_
            refine x_getR (b := 138) 12 22 rfl f_12_54 rfl (congrArg Prod.fst (F.1 125 (12, 92) rfl rfl)) (F.2.1 16022 138 rfl rfl) ?_
            refine x_iconst (v := 0) rfl ki_0 ?_
            refine y_iald (v := 0) (N := 2) 0 rfl (F.1 138 (100, 2) rfl rfl) (jinb_of (by decide)) (by decide) rfl ?_
            refine x_goto (tgt := 74) rfl rfl ?_
            refine x_iret rfl rfl ?_
            exact jqe (show sp_name a1 a2 a3 = 0 by unfold sp_name; (repeat' split) <;> first | rfl | (exfalso; omega)) (hQ _ (by repeat (first | exact O | refine jOl_si rfl ?_ | refine jOl_sl rfl ?_ | refine jOl_ci rfl ?_ | refine jOl_cl rfl ?_ | refine jOl_sr rfl ?_)))
        ·
          refine x_iconst (v := (-1)) rfl ki_m1 ?_
          refine x_iret rfl rfl ?_
          exact jqe (show sp_name a1 a2 a3 = (-1) by unfold sp_name; (repeat' split) <;> first | rfl | (exfalso; omega)) (hQ _ (by repeat (first | exact O | refine jOl_si rfl ?_ | refine jOl_sl rfl ?_ | refine jOl_ci rfl ?_ | refine jOl_cl rfl ?_ | refine jOl_sr rfl ?_)))
def sp_piece (a1 a2 a3 a4 : Int32) : Int32 := if (0 ≤ a4.toInt ∧ a4.toInt ≤ 6) then (-2) else (-1)
set_option maxRecDepth 100000 in
set_option maxHeartbeats 40000000 in
theorem px_piece (a1 a2 a3 a4 : Int32) {xs : Nat → Int32} {h : jH} {Q : Option Value → jH → Prop} (F : jFb 31 h) (O : jOl 7 xs h) (hQ : ∀ h', jFb 125 h' → jOl 7 xs h' → Q (some (.int (sp_piece a1 a2 a3 a4))) h') : jC m_X11_piece 100 0 0 [.ref 31, .int a1, .int a2, .int a3, .int a4] h Q := by
  have FM := jFb_up 125 rfl F
  refine jC.of rfl k_X11_piece rfl ?_
  show jX m_X11_piece 100 0 0 0 [(0, .ref 31), (1, .int a1), (2, .int a2), (3, .int a3), (4, .int a4)] [] _ 0 0 _
  refine x_iload (x := a4) rfl rfl ?_
  refine x_iflt (tgt := 12) rfl rfl (ti_lt (show (a4 : Int32).toInt = a4.toInt from rfl) (show (0 : Int32).toInt = 0 by decide) ⟨fun c1 => ?_, fun c1 => ?_⟩)
  ·
    refine x_iconst (v := (-1)) rfl ki_m1 ?_
    refine x_iret rfl rfl ?_
    exact jqe (show sp_piece a1 a2 a3 a4 = (-1) by unfold sp_piece; (repeat' split) <;> first | rfl | (exfalso; omega)) (hQ _ (by repeat (first | exact FM | refine jFb_si rfl ?_ | refine jFb_sl rfl ?_ | refine jFb_ci rfl ?_ | refine jFb_cl rfl ?_ | refine jFb_sr rfl ?_)) (by repeat (first | exact O | refine jOl_si rfl ?_ | refine jOl_sl rfl ?_ | refine jOl_ci rfl ?_ | refine jOl_cl rfl ?_ | refine jOl_sr rfl ?_)))
  ·
    refine x_iload (x := a4) rfl rfl ?_
    refine x_bipush (v := 6) rfl kb_6 ?_
    refine x_icle (tgt := 14) rfl rfl (ti_le (show (a4 : Int32).toInt = a4.toInt from rfl) (show (6 : Int32).toInt = 6 by decide) ⟨fun c2 => ?_, fun c2 => ?_⟩)
    ·
      refine x_aloadn (x := 31) rfl rfl ?_
      refine x_getR (b := 78) 11 4 rfl f_11_41 rfl (congrArg Prod.fst (F.1 31 (11, 13) rfl rfl)) (F.2.1 3972 78 rfl rfl) ?_
      refine x_iloadn (x := a1) rfl rfl ?_
      refine x_inv (N := m_X7_isMention) (As := [.int a1]) (b := 78) (st := []) (d' := 99) (mc := 0) (ms := 0) (host := "") 7 rfl t_X7_isMention ⟨Or.inl q_11_187, i_X7_isMention.1, i_X7_isMention.2⟩ ⟨by decide, rfl⟩ (congrArg Prod.fst (F.1 78 (7, 16) rfl rfl)) rfl (by decide) rfl rfl ⟨by decide, by decide⟩ (jC.of rfl k_X7_isMention rfl ?_)
      show jX m_X7_isMention 99 0 0 0 [(0, .ref 78), (1, .int a1)] [] _ 0 0 _
      refine x_iloadn (x := a1) rfl rfl ?_
      refine x_iflt (tgt := 41) rfl rfl (ti_lt (show (a1 : Int32).toInt = a1.toInt from rfl) (show (0 : Int32).toInt = 0 by decide) ⟨fun c3 => ?_, fun c3 => ?_⟩)
      ·
        refine x_iconst (v := 0) rfl ki_0 ?_
        refine x_zret rfl rfl (by first | decide | exact jp_01 _) ?_
        show jX m_X11_piece 100 0 0 22 [(0, .ref 31), (1, .int a1), (2, .int a2), (3, .int a3), (4, .int a4)] [.int 0] _ 0 0 _
        refine x_ifeq (tgt := 34) rfl rfl (br_t (by decide) ?_)
        refine x_bipush (v := (-2)) rfl kb_m2 ?_
        refine x_iret rfl rfl ?_
        exact jqe (show sp_piece a1 a2 a3 a4 = (-2) by unfold sp_piece; (repeat' split) <;> first | rfl | (exfalso; omega)) (hQ _ (by repeat (first | exact FM | refine jFb_si rfl ?_ | refine jFb_sl rfl ?_ | refine jFb_ci rfl ?_ | refine jFb_cl rfl ?_ | refine jFb_sr rfl ?_)) (by repeat (first | exact O | refine jOl_si rfl ?_ | refine jOl_sl rfl ?_ | refine jOl_ci rfl ?_ | refine jOl_cl rfl ?_ | refine jOl_sr rfl ?_)))
      ·
        refine x_iloadn (x := a1) rfl rfl ?_
        refine x_sipush (v := 600) rfl ks_600 ?_
        refine x_icge (tgt := 41) rfl rfl (ti_ge (show (a1 : Int32).toInt = a1.toInt from rfl) (show (600 : Int32).toInt = 600 by decide) ⟨fun c4 => ?_, fun c4 => ?_⟩)
        ·
          refine x_iconst (v := 0) rfl ki_0 ?_
          refine x_zret rfl rfl (by first | decide | exact jp_01 _) ?_
          show jX m_X11_piece 100 0 0 22 [(0, .ref 31), (1, .int a1), (2, .int a2), (3, .int a3), (4, .int a4)] [.int 0] _ 0 0 _
          refine x_ifeq (tgt := 34) rfl rfl (br_t (by decide) ?_)
          refine x_bipush (v := (-2)) rfl kb_m2 ?_
          refine x_iret rfl rfl ?_
          exact jqe (show sp_piece a1 a2 a3 a4 = (-2) by unfold sp_piece; (repeat' split) <;> first | rfl | (exfalso; omega)) (hQ _ (by repeat (first | exact FM | refine jFb_si rfl ?_ | refine jFb_sl rfl ?_ | refine jFb_ci rfl ?_ | refine jFb_cl rfl ?_ | refine jFb_sr rfl ?_)) (by repeat (first | exact O | refine jOl_si rfl ?_ | refine jOl_sl rfl ?_ | refine jOl_ci rfl ?_ | refine jOl_cl rfl ?_ | refine jOl_sr rfl ?_)))
        ·
          refine x_iloadn (x := a1) rfl rfl ?_
          refine x_iconst (v := 3) rfl ki_3 ?_
          refine x_idiv rfl (by decide) ?_
          refine x_aloadn (x := 78) rfl rfl ?_
          refine x_getR (b := 32) 7 0 rfl f_7_55 rfl (congrArg Prod.fst (F.1 78 (7, 16) rfl rfl)) (F.2.1 9984 32 rfl rfl) ?_
          refine x_getR (b := 33) 1 0 rfl f_7_63 rfl (congrArg Prod.fst (F.1 32 (1, 20) rfl rfl)) (F.2.1 4096 33 rfl rfl) ?_
          refine y_getI (v := 0) 8 3 rfl f_7_85 rfl (congrArg Prod.fst (F.1 33 (8, 4) rfl rfl)) (F.2.2.1 4227 0 rfl rfl) ?_
          refine x_icge (tgt := 41) rfl rfl (ti_ge (show (a1 / 3 : Int32).toInt = (a1 / 3).toInt from rfl) (show (0 : Int32).toInt = 0 by decide) ⟨fun c5 => ?_, fun c5 => ?_⟩)
          ·
            refine x_iconst (v := 0) rfl ki_0 ?_
            refine x_zret rfl rfl (by first | decide | exact jp_01 _) ?_
            show jX m_X11_piece 100 0 0 22 [(0, .ref 31), (1, .int a1), (2, .int a2), (3, .int a3), (4, .int a4)] [.int 0] _ 0 0 _
            refine x_ifeq (tgt := 34) rfl rfl (br_t (by decide) ?_)
            refine x_bipush (v := (-2)) rfl kb_m2 ?_
            refine x_iret rfl rfl ?_
            exact jqe (show sp_piece a1 a2 a3 a4 = (-2) by unfold sp_piece; (repeat' split) <;> first | rfl | (exfalso; omega)) (hQ _ (by repeat (first | exact FM | refine jFb_si rfl ?_ | refine jFb_sl rfl ?_ | refine jFb_ci rfl ?_ | refine jFb_cl rfl ?_ | refine jFb_sr rfl ?_)) (by repeat (first | exact O | refine jOl_si rfl ?_ | refine jOl_sl rfl ?_ | refine jOl_ci rfl ?_ | refine jOl_cl rfl ?_ | refine jOl_sr rfl ?_)))
          ·
            refine x_aloadn (x := 78) rfl rfl ?_
            refine x_getR (b := 79) 7 7 rfl f_7_27 rfl (congrArg Prod.fst (F.1 78 (7, 16) rfl rfl)) (F.2.1 9991 79 rfl rfl) ?_
            refine x_iloadn (x := a1) rfl rfl ?_
            refine y_iald (v := 0) (N := 600) a1.toNatClampNeg rfl (F.1 79 (100, 600) rfl rfl) (vpi (by omega)) rfl (F.2.2.2.1 79 rfl rfl _).1 ?_
            refine x_iconst (v := (-1)) rfl ki_m1 ?_
            refine x_iceq (tgt := 41) rfl rfl (br_f (by decide) ?_)
            refine x_iconst (v := 1) rfl ki_1 ?_
            refine x_goto (tgt := 42) rfl rfl ?_
            refine x_zret rfl rfl (by first | decide | exact jp_01 _) ?_
            show jX m_X11_piece 100 0 0 22 [(0, .ref 31), (1, .int a1), (2, .int a2), (3, .int a3), (4, .int a4)] [.int 1] _ 0 0 _
            refine x_ifeq (tgt := 34) rfl rfl (br_f (by decide) ?_)
            refine x_iloadn (x := a2) rfl rfl ?_
            refine x_iflt (tgt := 34) rfl rfl (ti_lt (show (a2 : Int32).toInt = a2.toInt from rfl) (show (0 : Int32).toInt = 0 by decide) ⟨fun c6 => ?_, fun c6 => ?_⟩)
            ·
              refine x_bipush (v := (-2)) rfl kb_m2 ?_
              refine x_iret rfl rfl ?_
              exact jqe (show sp_piece a1 a2 a3 a4 = (-2) by unfold sp_piece; (repeat' split) <;> first | rfl | (exfalso; omega)) (hQ _ (by repeat (first | exact FM | refine jFb_si rfl ?_ | refine jFb_sl rfl ?_ | refine jFb_ci rfl ?_ | refine jFb_cl rfl ?_ | refine jFb_sr rfl ?_)) (by repeat (first | exact O | refine jOl_si rfl ?_ | refine jOl_sl rfl ?_ | refine jOl_ci rfl ?_ | refine jOl_cl rfl ?_ | refine jOl_sr rfl ?_)))
            ·
              refine x_iloadn (x := a2) rfl rfl ?_
              refine x_iconst (v := 1) rfl ki_1 ?_
              refine x_icle (tgt := 37) rfl rfl (ti_le (show (a2 : Int32).toInt = a2.toInt from rfl) (show (1 : Int32).toInt = 1 by decide) ⟨fun c7 => ?_, fun c7 => ?_⟩)
              ·
                refine x_iloadn (x := a1) rfl rfl ?_
                refine x_iconst (v := 2) rfl ki_2 ?_
                refine x_imul rfl ?_
                refine x_iloadn (x := a2) rfl rfl ?_
                refine x_iadd rfl ?_
                refine x_istore (ls' := [(5, .int ((a1 * 2) + a2)), (0, .ref 31), (1, .int a1), (2, .int a2), (3, .int a3), (4, .int a4)]) rfl rfl rfl ?_
                refine x_aloadn (x := 31) rfl rfl ?_
                refine x_getR (b := 32) 11 0 rfl f_11_10 rfl (congrArg Prod.fst (F.1 31 (11, 13) rfl rfl)) (F.2.1 3968 32 rfl rfl) ?_
                refine x_getR (b := 35) 1 1 rfl f_11_149 rfl (congrArg Prod.fst (F.1 32 (1, 20) rfl rfl)) (F.2.1 4097 35 rfl rfl) ?_
                refine x_iload (x := (a1 * 2) + a2) rfl rfl ?_
                refine x_iconst (v := 0) rfl ki_0 ?_
                refine x_inv (N := m_X8_at) (As := [.int ((a1 * 2) + a2), .int 0]) (b := 35) (st := []) (d' := 99) (mc := 0) (ms := 0) (host := "") 8 rfl t_X8_at ⟨Or.inl q_11_171, i_X8_at.1, i_X8_at.2⟩ ⟨by decide, rfl⟩ (congrArg Prod.fst (F.1 35 (8, 4) rfl rfl)) rfl (by decide) rfl rfl ⟨by decide, by decide⟩ (jC.of rfl k_X8_at rfl ?_)
                show jX m_X8_at 99 0 0 0 [(0, .ref 35), (1, .int ((a1 * 2) + a2)), (2, .int 0)] [] _ 0 0 _
                refine x_iloadn (x := (a1 * 2) + a2) rfl rfl ?_
                refine x_iflt (tgt := 24) rfl rfl (ti_lt (show ((a1 * 2) + a2 : Int32).toInt = ((a1 * 2) + a2).toInt from rfl) (show (0 : Int32).toInt = 0 by decide) ⟨fun c8 => ?_, fun c8 => ?_⟩)
                ·
                  refine x_iconst (v := 0) rfl ki_0 ?_
                  refine x_iret rfl rfl ?_
                  show jX m_X11_piece 100 0 0 57 [(5, .int ((a1 * 2) + a2)), (0, .ref 31), (1, .int a1), (2, .int a2), (3, .int a3), (4, .int a4)] [.int 0] _ 0 0 _
                  refine x_istore (ls' := [(6, .int 0), (5, .int ((a1 * 2) + a2)), (0, .ref 31), (1, .int a1), (2, .int a2), (3, .int a3), (4, .int a4)]) rfl rfl rfl ?_
                  refine x_iload (x := 0) rfl rfl ?_
                  refine x_ifne (tgt := 67) rfl rfl (bn_f (by decide) ?_)
                  refine x_bipush (v := (-2)) rfl kb_m2 ?_
                  refine x_iret rfl rfl ?_
                  exact jqe (show sp_piece a1 a2 a3 a4 = (-2) by unfold sp_piece; (repeat' split) <;> first | rfl | (exfalso; omega)) (hQ _ (by repeat (first | exact FM | refine jFb_si rfl ?_ | refine jFb_sl rfl ?_ | refine jFb_ci rfl ?_ | refine jFb_cl rfl ?_ | refine jFb_sr rfl ?_)) (by repeat (first | exact O | refine jOl_si rfl ?_ | refine jOl_sl rfl ?_ | refine jOl_ci rfl ?_ | refine jOl_cl rfl ?_ | refine jOl_sr rfl ?_)))
                ·
                  refine x_iloadn (x := (a1 * 2) + a2) rfl rfl ?_
                  refine x_aloadn (x := 35) rfl rfl ?_
                  refine y_getI (v := 0) 8 3 rfl f_8_7 rfl (congrArg Prod.fst (F.1 35 (8, 4) rfl rfl)) (F.2.2.1 4483 0 rfl rfl) ?_
                  refine x_icge (tgt := 24) rfl rfl (ti_ge (show ((a1 * 2) + a2 : Int32).toInt = ((a1 * 2) + a2).toInt from rfl) (show (0 : Int32).toInt = 0 by decide) ⟨fun c9 => ?_, fun c9 => ?_⟩)
                  ·
                    refine x_iconst (v := 0) rfl ki_0 ?_
                    refine x_iret rfl rfl ?_
                    show jX m_X11_piece 100 0 0 57 [(5, .int ((a1 * 2) + a2)), (0, .ref 31), (1, .int a1), (2, .int a2), (3, .int a3), (4, .int a4)] [.int 0] _ 0 0 _
                    refine x_istore (ls' := [(6, .int 0), (5, .int ((a1 * 2) + a2)), (0, .ref 31), (1, .int a1), (2, .int a2), (3, .int a3), (4, .int a4)]) rfl rfl rfl ?_
                    refine x_iload (x := 0) rfl rfl ?_
                    refine x_ifne (tgt := 67) rfl rfl (bn_f (by decide) ?_)
                    refine x_bipush (v := (-2)) rfl kb_m2 ?_
                    refine x_iret rfl rfl ?_
                    exact jqe (show sp_piece a1 a2 a3 a4 = (-2) by unfold sp_piece; (repeat' split) <;> first | rfl | (exfalso; omega)) (hQ _ (by repeat (first | exact FM | refine jFb_si rfl ?_ | refine jFb_sl rfl ?_ | refine jFb_ci rfl ?_ | refine jFb_cl rfl ?_ | refine jFb_sr rfl ?_)) (by repeat (first | exact O | refine jOl_si rfl ?_ | refine jOl_sl rfl ?_ | refine jOl_ci rfl ?_ | refine jOl_cl rfl ?_ | refine jOl_sr rfl ?_)))
                  ·
                    refine x_iloadn (x := 0) rfl rfl ?_
                    refine x_iflt (tgt := 24) rfl rfl (br_f (by decide) ?_)
                    refine x_iloadn (x := 0) rfl rfl ?_
                    refine x_aloadn (x := 35) rfl rfl ?_
                    refine y_getI (v := 14) 8 0 rfl f_8_19 rfl (congrArg Prod.fst (F.1 35 (8, 4) rfl rfl)) (F.2.2.1 4480 14 rfl rfl) ?_
                    refine x_iclt (tgt := 26) rfl rfl (br_t (by decide) ?_)
                    refine x_aloadn (x := 35) rfl rfl ?_
                    refine x_getR (b := 36) 8 2 rfl f_8_25 rfl (congrArg Prod.fst (F.1 35 (8, 4) rfl rfl)) (F.2.1 4482 36 rfl rfl) ?_
                    refine x_iloadn (x := (a1 * 2) + a2) rfl rfl ?_
                    refine x_aloadn (x := 35) rfl rfl ?_
                    refine y_getI (v := 14) 8 0 rfl f_8_19 rfl (congrArg Prod.fst (F.1 35 (8, 4) rfl rfl)) (F.2.2.1 4480 14 rfl rfl) ?_
                    refine x_imul rfl ?_
                    refine x_iloadn (x := 0) rfl rfl ?_
                    refine x_iadd rfl ?_
                    refine y_iald (v := 0) (N := 16800) ((((a1 * 2) + a2) * 14) + 0).toNatClampNeg rfl (F.1 36 (100, 16800) rfl rfl) (vpi (by omega)) rfl (F.2.2.2.1 36 rfl rfl _).1 ?_
                    refine x_iret rfl rfl ?_
                    show jX m_X11_piece 100 0 0 57 [(5, .int ((a1 * 2) + a2)), (0, .ref 31), (1, .int a1), (2, .int a2), (3, .int a3), (4, .int a4)] [.int 0] _ 0 0 _
                    refine x_istore (ls' := [(6, .int 0), (5, .int ((a1 * 2) + a2)), (0, .ref 31), (1, .int a1), (2, .int a2), (3, .int a3), (4, .int a4)]) rfl rfl rfl ?_
                    refine x_iload (x := 0) rfl rfl ?_
                    refine x_ifne (tgt := 67) rfl rfl (bn_f (by decide) ?_)
                    refine x_bipush (v := (-2)) rfl kb_m2 ?_
                    refine x_iret rfl rfl ?_
                    exact jqe (show sp_piece a1 a2 a3 a4 = (-2) by unfold sp_piece; (repeat' split) <;> first | rfl | (exfalso; omega)) (hQ _ (by repeat (first | exact FM | refine jFb_si rfl ?_ | refine jFb_sl rfl ?_ | refine jFb_ci rfl ?_ | refine jFb_cl rfl ?_ | refine jFb_sr rfl ?_)) (by repeat (first | exact O | refine jOl_si rfl ?_ | refine jOl_sl rfl ?_ | refine jOl_ci rfl ?_ | refine jOl_cl rfl ?_ | refine jOl_sr rfl ?_)))
              ·
                refine x_bipush (v := (-2)) rfl kb_m2 ?_
                refine x_iret rfl rfl ?_
                exact jqe (show sp_piece a1 a2 a3 a4 = (-2) by unfold sp_piece; (repeat' split) <;> first | rfl | (exfalso; omega)) (hQ _ (by repeat (first | exact FM | refine jFb_si rfl ?_ | refine jFb_sl rfl ?_ | refine jFb_ci rfl ?_ | refine jFb_cl rfl ?_ | refine jFb_sr rfl ?_)) (by repeat (first | exact O | refine jOl_si rfl ?_ | refine jOl_sl rfl ?_ | refine jOl_ci rfl ?_ | refine jOl_cl rfl ?_ | refine jOl_sr rfl ?_)))
    ·
      refine x_iconst (v := (-1)) rfl ki_m1 ?_
      refine x_iret rfl rfl ?_
      exact jqe (show sp_piece a1 a2 a3 a4 = (-1) by unfold sp_piece; (repeat' split) <;> first | rfl | (exfalso; omega)) (hQ _ (by repeat (first | exact FM | refine jFb_si rfl ?_ | refine jFb_sl rfl ?_ | refine jFb_ci rfl ?_ | refine jFb_cl rfl ?_ | refine jFb_sr rfl ?_)) (by repeat (first | exact O | refine jOl_si rfl ?_ | refine jOl_sl rfl ?_ | refine jOl_ci rfl ?_ | refine jOl_cl rfl ?_ | refine jOl_sr rfl ?_)))
set_option maxRecDepth 100000 in
set_option maxHeartbeats 40000000 in
theorem pm_piece (a1 a2 a3 a4 : Int32) {xs : Nat → Int32} {h : jH} {Q : Option Value → jH → Prop} (F : jFb 125 h) (O : jOl 7 xs h) (hQ : ∀ h', jOl 7 xs h' → Q (some (.int (sp_piece a1 a2 a3 a4))) h') : jC m_X12_piece 100 0 0 [.ref 125, .int a1, .int a2, .int a3, .int a4] h Q := by
  refine jC.of rfl k_X12_piece rfl ?_
  show jX m_X12_piece 100 0 0 0 [(0, .ref 125), (1, .int a1), (2, .int a2), (3, .int a3), (4, .int a4)] [] _ 0 0 _
  refine x_aloadn (x := 125) rfl rfl ?_
  refine x_iconst (v := 0) rfl ki_0 ?_
  refine x_putI 12 0 rfl f_12_180 rfl (jfin_no TX12 RX12 92 rfl rfl) (congrArg Prod.fst (F.1 125 (12, 92) rfl rfl)) rfl ?_
  refine x_iload (x := a4) rfl rfl ?_
  refine x_i2l rfl ?_
  refine x_lconst (v := 0) rfl kl_0 ?_
  refine x_ldc2 (v := 6) rfl z_12_329 ?_
  refine x_inst (N := m_X12_in) (As := [.long (a4.toInt64), .long 0, .long 6]) (st := []) (d' := 99) (mc := 0) (ms := 0) (host := "") rfl t_X12_in ⟨Or.inl q_12_188, s_X12_in⟩ rfl (by decide) rfl rfl ⟨by decide, by decide⟩ (c_X12_in (jt_l _) (by decide) (by decide) ?_)
  show jX m_X12_piece 100 0 0 15 [(0, .ref 125), (1, .int a1), (2, .int a2), (3, .int a3), (4, .int a4)] [.int (jp (0 ≤ a4.toInt ∧ a4.toInt ≤ 6))] _ 0 0 _
  refine x_ifne (tgt := 20) rfl rfl (jpn ⟨fun c1 => ?_, fun c1 => ?_⟩)
  ·
    refine x_aloadn (x := 125) rfl rfl ?_
    refine x_iloadn (x := a1) rfl rfl ?_
    refine x_inv (N := m_X12_isMention) (As := [.int a1]) (b := 125) (st := []) (d' := 99) (mc := 0) (ms := 0) (host := "") 12 rfl t_X12_isMention ⟨Or.inl q_12_322, i_X12_isMention.1, i_X12_isMention.2⟩ ⟨by decide, rfl⟩ (congrArg Prod.fst (F.1 125 (12, 92) rfl rfl)) rfl (by decide) rfl rfl ⟨by decide, by decide⟩ (jC.of rfl k_X12_isMention rfl ?_)
    show jX m_X12_isMention 99 0 0 0 [(0, .ref 125), (1, .int a1)] [] _ 0 0 _
    refine x_iloadn (x := a1) rfl rfl ?_
    refine x_iflt (tgt := 34) rfl rfl (ti_lt (show (a1 : Int32).toInt = a1.toInt from rfl) (show (0 : Int32).toInt = 0 by decide) ⟨fun c2 => ?_, fun c2 => ?_⟩)
    ·
      refine x_iconst (v := 0) rfl ki_0 ?_
      refine x_zret rfl rfl (by first | decide | exact jp_01 _) ?_
      show jX m_X12_piece 100 0 0 25 [(0, .ref 125), (1, .int a1), (2, .int a2), (3, .int a3), (4, .int a4)] [.int 0] _ 0 0 _
      refine x_ifeq (tgt := 47) rfl rfl (br_t (by decide) ?_)
      refine x_bipush (v := (-2)) rfl kb_m2 ?_
      refine x_iret rfl rfl ?_
      exact jqe (show sp_piece a1 a2 a3 a4 = (-2) by unfold sp_piece; (repeat' split) <;> first | rfl | (exfalso; omega)) (hQ _ (by repeat (first | exact O | refine jOl_si rfl ?_ | refine jOl_sl rfl ?_ | refine jOl_ci rfl ?_ | refine jOl_cl rfl ?_ | refine jOl_sr rfl ?_)))
    ·
      refine x_aloadn (x := 125) rfl rfl ?_
      refine x_iloadn (x := a1) rfl rfl ?_
      refine x_iconst (v := 3) rfl ki_3 ?_
      refine x_idiv rfl (by decide) ?_
      refine x_inv (N := m_X12_isLine) (As := [.int (a1 / 3)]) (b := 125) (st := []) (d' := 98) (mc := 0) (ms := 0) (host := "") 12 rfl t_X12_isLine ⟨Or.inl q_12_293, i_X12_isLine.1, i_X12_isLine.2⟩ ⟨by decide, rfl⟩ (congrArg Prod.fst (F.1 125 (12, 92) rfl rfl)) rfl (by decide) rfl rfl ⟨by decide, by decide⟩ (jC.of rfl k_X12_isLine rfl ?_)
      show jX m_X12_isLine 98 0 0 0 [(0, .ref 125), (1, .int (a1 / 3))] [] _ 0 0 _
      refine x_iloadn (x := a1 / 3) rfl rfl ?_
      refine x_i2l rfl ?_
      refine x_lconst (v := 0) rfl kl_0 ?_
      refine x_aloadn (x := 125) rfl rfl ?_
      refine x_getR (b := 126) 12 2 rfl f_12_8 rfl (congrArg Prod.fst (F.1 125 (12, 92) rfl rfl)) (F.2.1 16002 126 rfl rfl) ?_
      refine x_iconst (v := 0) rfl ki_0 ?_
      refine y_iald (v := 0) (N := 50660) 0 rfl (F.1 126 (100, 50660) rfl rfl) (jinb_of (by decide)) (by decide) (F.2.2.2.1 126 rfl rfl 0).1 ?_
      refine y_i2l (v := 0) rfl (by decide) ?_
      refine x_lconst (v := 1) rfl kl_1 ?_
      refine y_lsub (v := (-1)) rfl (by decide) ?_
      refine x_inst (N := m_X12_in) (As := [.long ((a1 / 3).toInt64), .long 0, .long (-1)]) (st := []) (d' := 97) (mc := 0) (ms := 0) (host := "") rfl t_X12_in ⟨Or.inl q_12_188, s_X12_in⟩ rfl (by decide) rfl rfl ⟨by decide, by decide⟩ (c_X12_in (jt_l _) (by decide) (by decide) ?_)
      show jX m_X12_isLine 98 0 0 15 [(0, .ref 125), (1, .int (a1 / 3))] [.int (jp (0 ≤ (a1 / 3).toInt ∧ (a1 / 3).toInt ≤ (-1)))] _ 0 0 _
      refine x_zret rfl rfl (by first | decide | exact jp_01 _) ?_
      show jX m_X12_isMention 99 0 0 11 [(0, .ref 125), (1, .int a1)] [.int (jp (0 ≤ (a1 / 3).toInt ∧ (a1 / 3).toInt ≤ (-1)))] _ 0 0 _
      refine x_ifeq (tgt := 34) rfl rfl (jpe ⟨fun c3 => ?_, fun c3 => ?_⟩)
      ·
        refine x_iconst (v := 0) rfl ki_0 ?_
        refine x_zret rfl rfl (by first | decide | exact jp_01 _) ?_
        show jX m_X12_piece 100 0 0 25 [(0, .ref 125), (1, .int a1), (2, .int a2), (3, .int a3), (4, .int a4)] [.int 0] _ 0 0 _
        refine x_ifeq (tgt := 47) rfl rfl (br_t (by decide) ?_)
        refine x_bipush (v := (-2)) rfl kb_m2 ?_
        refine x_iret rfl rfl ?_
        exact jqe (show sp_piece a1 a2 a3 a4 = (-2) by unfold sp_piece; (repeat' split) <;> first | rfl | (exfalso; omega)) (hQ _ (by repeat (first | exact O | refine jOl_si rfl ?_ | refine jOl_sl rfl ?_ | refine jOl_ci rfl ?_ | refine jOl_cl rfl ?_ | refine jOl_sr rfl ?_)))
      ·
        refine x_iloadn (x := a1) rfl rfl ?_
        refine x_iconst (v := 3) rfl ki_3 ?_
        refine x_irem rfl (by decide) ?_
        refine x_aloadn (x := 125) rfl rfl ?_
        refine x_iloadn (x := a1) rfl rfl ?_
        refine x_iconst (v := 3) rfl ki_3 ?_
        refine x_idiv rfl (by decide) ?_
        refine x_inv (N := m_X12_bookOf) (As := [.int (a1 / 3)]) (b := 125) (st := [.int (a1 - a1 / 3 * 3)]) (d' := 98) (mc := 0) (ms := 0) (host := "") 12 rfl t_X12_bookOf ⟨Or.inl q_12_299, i_X12_bookOf.1, i_X12_bookOf.2⟩ ⟨by decide, rfl⟩ (congrArg Prod.fst (F.1 125 (12, 92) rfl rfl)) rfl (by decide) rfl rfl ⟨by decide, by decide⟩ (jC.of rfl k_X12_bookOf rfl ?_)
        show jX m_X12_bookOf 98 0 0 0 [(0, .ref 125), (1, .int (a1 / 3))] [] _ 0 0 _
        refine x_aloadn (x := 125) rfl rfl ?_
        refine x_getR (b := 126) 12 2 rfl f_12_8 rfl (congrArg Prod.fst (F.1 125 (12, 92) rfl rfl)) (F.2.1 16002 126 rfl rfl) ?_
        refine x_aloadn (x := 125) rfl rfl ?_
        refine x_iloadn (x := a1 / 3) rfl rfl ?_
        refine x_inv (N := m_X12_at) (As := [.int (a1 / 3)]) (b := 125) (st := [.ref 126]) (d' := 97) (mc := 0) (ms := 0) (host := "") 12 rfl t_X12_at ⟨Or.inl q_12_254, i_X12_at.1, i_X12_at.2⟩ ⟨by decide, rfl⟩ (congrArg Prod.fst (F.1 125 (12, 92) rfl rfl)) rfl (by decide) rfl rfl ⟨by decide, by decide⟩ (jC.of rfl k_X12_at rfl ?_)
        show jX m_X12_at 97 0 0 0 [(0, .ref 125), (1, .int (a1 / 3))] [] _ 0 0 _
        refine x_bipush (v := 20) rfl kb_20 ?_
        refine x_bipush (v := 90) rfl kb_90 ?_
        refine x_iloadn (x := a1 / 3) rfl rfl ?_
        refine x_imul rfl ?_
        refine x_iadd rfl ?_
        refine x_iret rfl rfl ?_
        show jX m_X12_bookOf 98 0 0 9 [(0, .ref 125), (1, .int (a1 / 3))] [.int (20 + (90 * (a1 / 3))), .ref 126] _ 0 0 _
        refine y_iald (v := 0) (N := 50660) (20 + (90 * (a1 / 3))).toNatClampNeg rfl (F.1 126 (100, 50660) rfl rfl) (vpi (by omega)) rfl (F.2.2.2.1 126 rfl rfl _).1 ?_
        refine x_iret rfl rfl ?_
        show jX m_X12_isMention 99 0 0 24 [(0, .ref 125), (1, .int a1)] [.int 0, .int (a1 - a1 / 3 * 3)] _ 0 0 _
        refine x_inst (N := m_X12_rolesOf) (As := [.int 0]) (st := [.int (a1 - a1 / 3 * 3)]) (d' := 98) (mc := 0) (ms := 0) (host := "") rfl t_X12_rolesOf ⟨Or.inl q_12_286, s_X12_rolesOf⟩ rfl (by decide) rfl rfl ⟨by decide, by decide⟩ (jC.of rfl k_X12_rolesOf rfl ?_)
        show jX m_X12_rolesOf 98 0 0 0 [(0, .int 0)] [] _ 0 0 _
        refine x_iloadn (x := 0) rfl rfl ?_
        refine x_ifne (tgt := 8) rfl rfl (bn_f (by decide) ?_)
        refine x_iconst (v := 3) rfl ki_3 ?_
        refine x_goto (tgt := 18) rfl rfl ?_
        refine x_iret rfl rfl ?_
        show jX m_X12_isMention 99 0 0 27 [(0, .ref 125), (1, .int a1)] [.int 3, .int (a1 - a1 / 3 * 3)] _ 0 0 _
        refine x_icge (tgt := 34) rfl rfl (ti_ge (show (a1 - a1 / 3 * 3 : Int32).toInt = (a1 - a1 / 3 * 3).toInt from rfl) (show (3 : Int32).toInt = 3 by decide) ⟨fun c4 => ?_, fun c4 => ?_⟩)
        ·
          refine x_iconst (v := 0) rfl ki_0 ?_
          refine x_zret rfl rfl (by first | decide | exact jp_01 _) ?_
          show jX m_X12_piece 100 0 0 25 [(0, .ref 125), (1, .int a1), (2, .int a2), (3, .int a3), (4, .int a4)] [.int 0] _ 0 0 _
          refine x_ifeq (tgt := 47) rfl rfl (br_t (by decide) ?_)
          refine x_bipush (v := (-2)) rfl kb_m2 ?_
          refine x_iret rfl rfl ?_
          exact jqe (show sp_piece a1 a2 a3 a4 = (-2) by unfold sp_piece; (repeat' split) <;> first | rfl | (exfalso; omega)) (hQ _ (by repeat (first | exact O | refine jOl_si rfl ?_ | refine jOl_sl rfl ?_ | refine jOl_ci rfl ?_ | refine jOl_cl rfl ?_ | refine jOl_sr rfl ?_)))
        ·
          refine x_iconst (v := 1) rfl ki_1 ?_
          refine x_goto (tgt := 35) rfl rfl ?_
          refine x_zret rfl rfl (by first | decide | exact jp_01 _) ?_
          show jX m_X12_piece 100 0 0 25 [(0, .ref 125), (1, .int a1), (2, .int a2), (3, .int a3), (4, .int a4)] [.int 1] _ 0 0 _
          refine x_ifeq (tgt := 47) rfl rfl (br_f (by decide) ?_)
          refine x_iloadn (x := a2) rfl rfl ?_
          refine x_i2l rfl ?_
          refine x_lconst (v := 0) rfl kl_0 ?_
          refine x_lconst (v := 1) rfl kl_1 ?_
          refine x_inst (N := m_X12_in) (As := [.long (a2.toInt64), .long 0, .long 1]) (st := []) (d' := 99) (mc := 0) (ms := 0) (host := "") rfl t_X12_in ⟨Or.inl q_12_188, s_X12_in⟩ rfl (by decide) rfl rfl ⟨by decide, by decide⟩ (c_X12_in (jt_l _) (by decide) (by decide) ?_)
          show jX m_X12_piece 100 0 0 35 [(0, .ref 125), (1, .int a1), (2, .int a2), (3, .int a3), (4, .int a4)] [.int (jp (0 ≤ a2.toInt ∧ a2.toInt ≤ 1))] _ 0 0 _
          refine x_ifeq (tgt := 47) rfl rfl (jpe ⟨fun c5 => ?_, fun c5 => ?_⟩)
          ·
            refine x_bipush (v := (-2)) rfl kb_m2 ?_
            refine x_iret rfl rfl ?_
            exact jqe (show sp_piece a1 a2 a3 a4 = (-2) by unfold sp_piece; (repeat' split) <;> first | rfl | (exfalso; omega)) (hQ _ (by repeat (first | exact O | refine jOl_si rfl ?_ | refine jOl_sl rfl ?_ | refine jOl_ci rfl ?_ | refine jOl_cl rfl ?_ | refine jOl_sr rfl ?_)))
          ·
            refine x_aloadn (x := 125) rfl rfl ?_
            refine x_iloadn (x := a1) rfl rfl ?_
            refine x_iloadn (x := a2) rfl rfl ?_
            refine x_inv (N := m_X12_isNamed) (As := [.int a1, .int a2]) (b := 125) (st := []) (d' := 99) (mc := 0) (ms := 0) (host := "") 12 rfl t_X12_isNamed ⟨Or.inl q_12_315, i_X12_isNamed.1, i_X12_isNamed.2⟩ ⟨by decide, rfl⟩ (congrArg Prod.fst (F.1 125 (12, 92) rfl rfl)) rfl (by decide) rfl rfl ⟨by decide, by decide⟩ (jC.of rfl k_X12_isNamed rfl ?_)
            show jX m_X12_isNamed 99 0 0 0 [(0, .ref 125), (1, .int a1), (2, .int a2)] [] _ 0 0 _
            refine x_aloadn (x := 125) rfl rfl ?_
            refine x_getR (b := 126) 12 2 rfl f_12_8 rfl (congrArg Prod.fst (F.1 125 (12, 92) rfl rfl)) (F.2.1 16002 126 rfl rfl) ?_
            refine x_aloadn (x := 125) rfl rfl ?_
            refine x_iloadn (x := a1) rfl rfl ?_
            refine x_iloadn (x := a2) rfl rfl ?_
            refine x_inv (N := m_X12_nameAt) (As := [.int a1, .int a2]) (b := 125) (st := [.ref 126]) (d' := 98) (mc := 0) (ms := 0) (host := "") 12 rfl t_X12_nameAt ⟨Or.inl q_12_311, i_X12_nameAt.1, i_X12_nameAt.2⟩ ⟨by decide, rfl⟩ (congrArg Prod.fst (F.1 125 (12, 92) rfl rfl)) rfl (by decide) rfl rfl ⟨by decide, by decide⟩ (jC.of rfl k_X12_nameAt rfl ?_)
            show jX m_X12_nameAt 98 0 0 0 [(0, .ref 125), (1, .int a1), (2, .int a2)] [] _ 0 0 _
            refine x_aloadn (x := 125) rfl rfl ?_
            refine x_iloadn (x := a1) rfl rfl ?_
            refine x_iconst (v := 3) rfl ki_3 ?_
            refine x_idiv rfl (by decide) ?_
            refine x_inv (N := m_X12_at) (As := [.int (a1 / 3)]) (b := 125) (st := []) (d' := 97) (mc := 0) (ms := 0) (host := "") 12 rfl t_X12_at ⟨Or.inl q_12_254, i_X12_at.1, i_X12_at.2⟩ ⟨by decide, rfl⟩ (congrArg Prod.fst (F.1 125 (12, 92) rfl rfl)) rfl (by decide) rfl rfl ⟨by decide, by decide⟩ (jC.of rfl k_X12_at rfl ?_)
            show jX m_X12_at 97 0 0 0 [(0, .ref 125), (1, .int (a1 / 3))] [] _ 0 0 _
            refine x_bipush (v := 20) rfl kb_20 ?_
            refine x_bipush (v := 90) rfl kb_90 ?_
            refine x_iloadn (x := a1 / 3) rfl rfl ?_
            refine x_imul rfl ?_
            refine x_iadd rfl ?_
            refine x_iret rfl rfl ?_
            show jX m_X12_nameAt 98 0 0 7 [(0, .ref 125), (1, .int a1), (2, .int a2)] [.int (20 + (90 * (a1 / 3)))] _ 0 0 _
            refine x_bipush (v := 6) rfl kb_6 ?_
            refine x_iadd rfl ?_
            refine x_bipush (v := 28) rfl kb_28 ?_
            refine x_iloadn (x := a1) rfl rfl ?_
            refine x_iconst (v := 3) rfl ki_3 ?_
            refine x_irem rfl (by decide) ?_
            refine x_imul rfl ?_
            refine x_iadd rfl ?_
            refine x_bipush (v := 14) rfl kb_14 ?_
            refine x_iloadn (x := a2) rfl rfl ?_
            refine x_imul rfl ?_
            refine x_iadd rfl ?_
            refine x_iret rfl rfl ?_
            show jX m_X12_isNamed 99 0 0 10 [(0, .ref 125), (1, .int a1), (2, .int a2)] [.int (((20 + (90 * (a1 / 3))) + 6) + (28 * (a1 - a1 / 3 * 3))) + (14 * a2), .ref 126] _ 0 0 _
            refine y_iald (v := 0) (N := 50660) ((((20 + (90 * (a1 / 3))) + 6) + (28 * (a1 - a1 / 3 * 3))) + (14 * a2)).toNatClampNeg rfl (F.1 126 (100, 50660) rfl rfl) (vpi (by omega)) rfl (F.2.2.2.1 126 rfl rfl _).1 ?_
            refine x_ifle (tgt := 18) rfl rfl (br_t (by decide) ?_)
            refine x_iconst (v := 0) rfl ki_0 ?_
            refine x_zret rfl rfl (by first | decide | exact jp_01 _) ?_
            show jX m_X12_piece 100 0 0 44 [(0, .ref 125), (1, .int a1), (2, .int a2), (3, .int a3), (4, .int a4)] [.int 0] _ 0 0 _
            refine x_ifne (tgt := 50) rfl rfl (bn_f (by decide) ?_)
            refine x_bipush (v := (-2)) rfl kb_m2 ?_
            refine x_iret rfl rfl ?_
            exact jqe (show sp_piece a1 a2 a3 a4 = (-2) by unfold sp_piece; (repeat' split) <;> first | rfl | (exfalso; omega)) (hQ _ (by repeat (first | exact O | refine jOl_si rfl ?_ | refine jOl_sl rfl ?_ | refine jOl_ci rfl ?_ | refine jOl_cl rfl ?_ | refine jOl_sr rfl ?_)))
  ·
    refine x_iconst (v := (-1)) rfl ki_m1 ?_
    refine x_iret rfl rfl ?_
    exact jqe (show sp_piece a1 a2 a3 a4 = (-1) by unfold sp_piece; (repeat' split) <;> first | rfl | (exfalso; omega)) (hQ _ (by repeat (first | exact O | refine jOl_si rfl ?_ | refine jOl_sl rfl ?_ | refine jOl_ci rfl ?_ | refine jOl_cl rfl ?_ | refine jOl_sr rfl ?_)))
