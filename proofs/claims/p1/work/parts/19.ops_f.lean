def sp_owe (a1 a2 a3 : Int32) : Int32 := (-1)
set_option maxRecDepth 100000 in
set_option maxHeartbeats 40000000 in
theorem px_owe (a1 a2 a3 : Int32) {xs : Nat → Int32} {h : jH} {Q : Option Value → jH → Prop} (F : jFb 31 h) (O : jOl 7 xs h) (hQ : ∀ h', jFb 125 h' → jOl 7 xs h' → Q (some (.int (sp_owe a1 a2 a3))) h') : jC m_X11_owe 100 0 0 [.ref 31, .int a1, .int a2, .int a3] h Q := by
  have FM := jFb_up 125 rfl F
  refine jC.of rfl k_X11_owe rfl ?_
  show jX m_X11_owe 100 0 0 0 [(0, .ref 31), (1, .int a1), (2, .int a2), (3, .int a3)] [] _ 0 0 _
  refine x_iloadn (x := a3) rfl rfl ?_
  refine x_inst (N := m_X11_isDay) (As := [.int a3]) (st := []) (d' := 99) (mc := 0) (ms := 0) (host := "") rfl t_X11_isDay ⟨Or.inl q_11_115, s_X11_isDay⟩ rfl (by decide) rfl rfl ⟨by decide, by decide⟩ (c_X11_isDay (x := a3) ?_)
  show jX m_X11_owe 100 0 0 4 [(0, .ref 31), (1, .int a1), (2, .int a2), (3, .int a3)] [.int (jp (0 ≤ a3.toInt ∧ a3.toInt ≤ 146399))] _ 0 0 _
  refine x_ifeq (tgt := 35) rfl rfl (jpe ⟨fun c1 => ?_, fun c1 => ?_⟩)
  ·
    refine x_iconst (v := (-1)) rfl ki_m1 ?_
    refine x_iret rfl rfl ?_
    exact jqe (show sp_owe a1 a2 a3 = (-1) by unfold sp_owe; (repeat' split) <;> first | rfl | (exfalso; omega)) (hQ _ FM O)
  ·
    refine x_aloadn (x := 31) rfl rfl ?_
    refine x_getR (b := 32) 11 0 rfl f_11_10 rfl (congrArg Prod.fst (F.1 31 (11, 13) rfl rfl)) (F.2.1 3968 32 rfl rfl) ?_
    refine x_getR (b := 53) 1 10 rfl f_11_437 rfl (congrArg Prod.fst (F.1 32 (1, 20) rfl rfl)) (F.2.1 4106 53 rfl rfl) ?_
    refine x_iloadn (x := a1) rfl rfl ?_
    refine x_iloadn (x := a3) rfl rfl ?_
    refine x_inv (N := m_X8_isKnown) (As := [.int a1, .int a3]) (b := 53) (st := []) (d' := 99) (mc := 0) (ms := 0) (host := "") 8 rfl t_X8_isKnown ⟨Or.inl q_11_440, i_X8_isKnown.1, i_X8_isKnown.2⟩ ⟨by decide, rfl⟩ (congrArg Prod.fst (F.1 53 (8, 4) rfl rfl)) rfl (by decide) rfl rfl ⟨by decide, by decide⟩ (jC.of rfl k_X8_isKnown rfl ?_)
    show jX m_X8_isKnown 99 0 0 0 [(0, .ref 53), (1, .int a1), (2, .int a3)] [] _ 0 0 _
    refine x_iloadn (x := a1) rfl rfl ?_
    refine x_iflt (tgt := 31) rfl rfl (ti_lt (show (a1 : Int32).toInt = a1.toInt from rfl) (show (0 : Int32).toInt = 0 by decide) ⟨fun c2 => ?_, fun c2 => ?_⟩)
    ·
      refine x_iconst (v := 0) rfl ki_0 ?_
      refine x_zret rfl rfl (by first | decide | exact jp_01 _) ?_
      show jX m_X11_owe 100 0 0 19 [(0, .ref 31), (1, .int a1), (2, .int a2), (3, .int a3)] [.int 0] _ 0 0 _
      refine x_ifeq (tgt := 35) rfl rfl (br_t (by decide) ?_)
      refine x_iconst (v := (-1)) rfl ki_m1 ?_
      refine x_iret rfl rfl ?_
      exact jqe (show sp_owe a1 a2 a3 = (-1) by unfold sp_owe; (repeat' split) <;> first | rfl | (exfalso; omega)) (hQ _ FM O)
    ·
      refine x_iloadn (x := a1) rfl rfl ?_
      refine x_aloadn (x := 53) rfl rfl ?_
      refine y_getI (v := 0) 8 3 rfl f_8_7 rfl (congrArg Prod.fst (F.1 53 (8, 4) rfl rfl)) (F.2.2.1 6787 0 rfl rfl) ?_
      refine x_icge (tgt := 31) rfl rfl (ti_ge (show (a1 : Int32).toInt = a1.toInt from rfl) (show (0 : Int32).toInt = 0 by decide) ⟨fun c3 => ?_, fun c3 => ?_⟩)
      ·
        refine x_iconst (v := 0) rfl ki_0 ?_
        refine x_zret rfl rfl (by first | decide | exact jp_01 _) ?_
        show jX m_X11_owe 100 0 0 19 [(0, .ref 31), (1, .int a1), (2, .int a2), (3, .int a3)] [.int 0] _ 0 0 _
        refine x_ifeq (tgt := 35) rfl rfl (br_t (by decide) ?_)
        refine x_iconst (v := (-1)) rfl ki_m1 ?_
        refine x_iret rfl rfl ?_
        exact jqe (show sp_owe a1 a2 a3 = (-1) by unfold sp_owe; (repeat' split) <;> first | rfl | (exfalso; omega)) (hQ _ FM O)
      ·
        exfalso
        omega
set_option maxRecDepth 100000 in
set_option maxHeartbeats 40000000 in
theorem pm_owe (a1 a2 a3 : Int32) {xs : Nat → Int32} {h : jH} {Q : Option Value → jH → Prop} (F : jFb 125 h) (O : jOl 7 xs h) (hQ : ∀ h', jOl 7 xs h' → Q (some (.int (sp_owe a1 a2 a3))) h') : jC m_X12_owe 100 0 0 [.ref 125, .int a1, .int a2, .int a3] h Q := by
  refine jC.of rfl k_X12_owe rfl ?_
  show jX m_X12_owe 100 0 0 0 [(0, .ref 125), (1, .int a1), (2, .int a2), (3, .int a3)] [] _ 0 0 _
  refine x_aloadn (x := 125) rfl rfl ?_
  refine x_iconst (v := 0) rfl ki_0 ?_
  refine x_putI 12 0 rfl f_12_180 rfl (jfin_no TX12 RX12 92 rfl rfl) (congrArg Prod.fst (F.1 125 (12, 92) rfl rfl)) rfl ?_
  refine x_aloadn (x := 125) rfl rfl ?_
  refine x_iloadn (x := a1) rfl rfl ?_
  refine x_inv (N := m_X12_isLevy) (As := [.int a1]) (b := 125) (st := []) (d' := 99) (mc := 0) (ms := 0) (host := "") 12 rfl t_X12_isLevy ⟨Or.inl q_12_824, i_X12_isLevy.1, i_X12_isLevy.2⟩ ⟨by decide, rfl⟩ (congrArg Prod.fst (sh_si (F.1 125 (12, 92) rfl rfl))) rfl (by decide) rfl rfl ⟨by decide, by decide⟩ (jC.of rfl k_X12_isLevy rfl ?_)
  show jX m_X12_isLevy 99 0 0 0 [(0, .ref 125), (1, .int a1)] [] _ 0 0 _
  refine x_iloadn (x := a1) rfl rfl ?_
  refine x_i2l rfl ?_
  refine x_lconst (v := 0) rfl kl_0 ?_
  refine x_aloadn (x := 125) rfl rfl ?_
  refine x_getR (b := 126) 12 2 rfl f_12_8 rfl (congrArg Prod.fst (sh_si (F.1 125 (12, 92) rfl rfl))) (rv_si (F.2.1 16002 126 rfl rfl)) ?_
  refine x_bipush (v := 11) rfl kb_11 ?_
  refine y_iald (v := 0) (N := 50660) 11 rfl (sh_si (F.1 126 (100, 50660) rfl rfl)) (jinb_of (by decide)) (by decide) (iv_si rfl (F.2.2.2.1 126 rfl rfl 11).1) ?_
  refine y_i2l (v := 0) rfl (by decide) ?_
  refine x_lconst (v := 1) rfl kl_1 ?_
  refine y_lsub (v := (-1)) rfl (by decide) ?_
  refine x_inst (N := m_X12_in) (As := [.long (a1.toInt64), .long 0, .long (-1)]) (st := []) (d' := 98) (mc := 0) (ms := 0) (host := "") rfl t_X12_in ⟨Or.inl q_12_188, s_X12_in⟩ rfl (by decide) rfl rfl ⟨by decide, by decide⟩ (c_X12_in (m := a1.toInt) (a := 0) (b := (-1)) (jt_l _) (by decide) (by decide) ?_)
  show jX m_X12_isLevy 99 0 0 16 [(0, .ref 125), (1, .int a1)] [.int (jp (0 ≤ a1.toInt ∧ a1.toInt ≤ (-1)))] _ 0 0 _
  refine x_zret rfl rfl (by first | decide | exact jp_01 _) ?_
  show jX m_X12_owe 100 0 0 10 [(0, .ref 125), (1, .int a1), (2, .int a2), (3, .int a3)] [.int (jp (0 ≤ a1.toInt ∧ a1.toInt ≤ (-1)))] _ 0 0 _
  refine x_ifeq (tgt := 51) rfl rfl (jpe ⟨fun c1 => ?_, fun c1 => ?_⟩)
  ·
    refine x_iconst (v := (-1)) rfl ki_m1 ?_
    refine x_iret rfl rfl ?_
    exact jqe (show sp_owe a1 a2 a3 = (-1) by unfold sp_owe; (repeat' split) <;> first | rfl | (exfalso; omega)) (hQ _ (jOl_si rfl O))
  ·
    exfalso
    omega
def sp_pay (a1 a2 a3 a4 a5 : Int32) : Int32 := if (1 ≤ a3.toInt ∧ a3.toInt ≤ 1000000) ∧ (0 ≤ a4.toInt ∧ a4.toInt ≤ 146399) ∧ (0 ≤ a5.toInt ∧ a5.toInt ≤ 146399) then (-2) else (-1)
set_option maxRecDepth 100000 in
set_option maxHeartbeats 40000000 in
theorem px_pay (a1 a2 a3 a4 a5 : Int32) {xs : Nat → Int32} {h : jH} {Q : Option Value → jH → Prop} (F : jFb 31 h) (O : jOl 7 xs h) (hQ : ∀ h', jFb 125 h' → jOl 7 xs h' → Q (some (.int (sp_pay a1 a2 a3 a4 a5))) h') : jC m_X11_pay 100 0 0 [.ref 31, .int a1, .int a2, .int a3, .int a4, .int a5] h Q := by
  have FM := jFb_up 125 rfl F
  refine jC.of rfl k_X11_pay rfl ?_
  show jX m_X11_pay 100 0 0 0 [(0, .ref 31), (1, .int a1), (2, .int a2), (3, .int a3), (4, .int a4), (5, .int a5)] [] _ 0 0 _
  refine x_iloadn (x := a3) rfl rfl ?_
  refine x_iconst (v := 1) rfl ki_1 ?_
  refine x_ldcw (v := 1000000) rfl z_11_436 ?_
  refine x_inst (N := m_X11_isWithin) (As := [.int a3, .int 1, .int 1000000]) (st := []) (d' := 99) (mc := 0) (ms := 0) (host := "") rfl t_X11_isWithin ⟨Or.inl q_11_202, s_X11_isWithin⟩ rfl (by decide) rfl rfl ⟨by decide, by decide⟩ (c_X11_isWithin (m := a3.toInt) (i := 1) (j := 1000000) rfl (by decide) (by decide) ?_)
  show jX m_X11_pay 100 0 0 8 [(0, .ref 31), (1, .int a1), (2, .int a2), (3, .int a3), (4, .int a4), (5, .int a5)] [.int (jp (1 ≤ a3.toInt ∧ a3.toInt ≤ 1000000))] _ 0 0 _
  refine x_ifeq (tgt := 27) rfl rfl (jpe ⟨fun c1 => ?_, fun c1 => ?_⟩)
  ·
    refine x_aloadn (x := 31) rfl rfl ?_
    refine x_iconst (v := (-1)) rfl ki_m1 ?_
    refine x_inv (N := m_X11_refuse) (As := [.int (-1)]) (b := 31) (st := []) (d' := 99) (mc := 0) (ms := 0) (host := "") 11 rfl t_X11_refuse ⟨Or.inl q_11_206, i_X11_refuse.1, i_X11_refuse.2⟩ ⟨by decide, rfl⟩ (congrArg Prod.fst (F.1 31 (11, 13) rfl rfl)) rfl (by decide) rfl rfl ⟨by decide, by decide⟩ (jC.of rfl k_X11_refuse rfl ?_)
    show jX m_X11_refuse 99 0 0 0 [(0, .ref 31), (1, .int (-1))] [] _ 0 0 _
    refine x_aloadn (x := 31) rfl rfl ?_
    refine x_iloadn (x := (-1)) rfl rfl ?_
    refine x_putI 11 12 rfl f_11_94 rfl (jfin_no TX11 RX11 13 rfl rfl) (congrArg Prod.fst (F.1 31 (11, 13) rfl rfl)) rfl ?_
    refine x_iloadn (x := (-1)) rfl rfl ?_
    refine x_iret rfl rfl ?_
    show jX m_X11_pay 100 0 0 32 [(0, .ref 31), (1, .int a1), (2, .int a2), (3, .int a3), (4, .int a4), (5, .int a5)] [.int (-1)] _ 0 0 _
    refine x_iret rfl rfl ?_
    exact jqe (show sp_pay a1 a2 a3 a4 a5 = (-1) by unfold sp_pay; (repeat' split) <;> first | rfl | (exfalso; omega)) (hQ _ (jFb_si rfl FM) (jOl_si rfl O))
  ·
    refine x_iload (x := a4) rfl rfl ?_
    refine x_inst (N := m_X11_isDay) (As := [.int a4]) (st := []) (d' := 99) (mc := 0) (ms := 0) (host := "") rfl t_X11_isDay ⟨Or.inl q_11_115, s_X11_isDay⟩ rfl (by decide) rfl rfl ⟨by decide, by decide⟩ (c_X11_isDay (x := a4) ?_)
    show jX m_X11_pay 100 0 0 16 [(0, .ref 31), (1, .int a1), (2, .int a2), (3, .int a3), (4, .int a4), (5, .int a5)] [.int (jp (0 ≤ a4.toInt ∧ a4.toInt ≤ 146399))] _ 0 0 _
    refine x_ifeq (tgt := 27) rfl rfl (jpe ⟨fun c2 => ?_, fun c2 => ?_⟩)
    ·
      refine x_aloadn (x := 31) rfl rfl ?_
      refine x_iconst (v := (-1)) rfl ki_m1 ?_
      refine x_inv (N := m_X11_refuse) (As := [.int (-1)]) (b := 31) (st := []) (d' := 99) (mc := 0) (ms := 0) (host := "") 11 rfl t_X11_refuse ⟨Or.inl q_11_206, i_X11_refuse.1, i_X11_refuse.2⟩ ⟨by decide, rfl⟩ (congrArg Prod.fst (F.1 31 (11, 13) rfl rfl)) rfl (by decide) rfl rfl ⟨by decide, by decide⟩ (jC.of rfl k_X11_refuse rfl ?_)
      show jX m_X11_refuse 99 0 0 0 [(0, .ref 31), (1, .int (-1))] [] _ 0 0 _
      refine x_aloadn (x := 31) rfl rfl ?_
      refine x_iloadn (x := (-1)) rfl rfl ?_
      refine x_putI 11 12 rfl f_11_94 rfl (jfin_no TX11 RX11 13 rfl rfl) (congrArg Prod.fst (F.1 31 (11, 13) rfl rfl)) rfl ?_
      refine x_iloadn (x := (-1)) rfl rfl ?_
      refine x_iret rfl rfl ?_
      show jX m_X11_pay 100 0 0 32 [(0, .ref 31), (1, .int a1), (2, .int a2), (3, .int a3), (4, .int a4), (5, .int a5)] [.int (-1)] _ 0 0 _
      refine x_iret rfl rfl ?_
      exact jqe (show sp_pay a1 a2 a3 a4 a5 = (-1) by unfold sp_pay; (repeat' split) <;> first | rfl | (exfalso; omega)) (hQ _ (jFb_si rfl FM) (jOl_si rfl O))
    ·
      refine x_iload (x := a5) rfl rfl ?_
      refine x_inst (N := m_X11_isDay) (As := [.int a5]) (st := []) (d' := 99) (mc := 0) (ms := 0) (host := "") rfl t_X11_isDay ⟨Or.inl q_11_115, s_X11_isDay⟩ rfl (by decide) rfl rfl ⟨by decide, by decide⟩ (c_X11_isDay (x := a5) ?_)
      show jX m_X11_pay 100 0 0 24 [(0, .ref 31), (1, .int a1), (2, .int a2), (3, .int a3), (4, .int a4), (5, .int a5)] [.int (jp (0 ≤ a5.toInt ∧ a5.toInt ≤ 146399))] _ 0 0 _
      refine x_ifne (tgt := 33) rfl rfl (jpn ⟨fun c3 => ?_, fun c3 => ?_⟩)
      ·
        refine x_iloadn (x := a1) rfl rfl ?_
        refine x_iflt (tgt := 59) rfl rfl (ti_lt (show (a1 : Int32).toInt = a1.toInt from rfl) (show (0 : Int32).toInt = 0 by decide) ⟨fun c4 => ?_, fun c4 => ?_⟩)
        ·
          refine x_aloadn (x := 31) rfl rfl ?_
          refine x_bipush (v := (-2)) rfl kb_m2 ?_
          refine x_inv (N := m_X11_refuse) (As := [.int (-2)]) (b := 31) (st := []) (d' := 99) (mc := 0) (ms := 0) (host := "") 11 rfl t_X11_refuse ⟨Or.inl q_11_206, i_X11_refuse.1, i_X11_refuse.2⟩ ⟨by decide, rfl⟩ (congrArg Prod.fst (F.1 31 (11, 13) rfl rfl)) rfl (by decide) rfl rfl ⟨by decide, by decide⟩ (jC.of rfl k_X11_refuse rfl ?_)
          show jX m_X11_refuse 99 0 0 0 [(0, .ref 31), (1, .int (-2))] [] _ 0 0 _
          refine x_aloadn (x := 31) rfl rfl ?_
          refine x_iloadn (x := (-2)) rfl rfl ?_
          refine x_putI 11 12 rfl f_11_94 rfl (jfin_no TX11 RX11 13 rfl rfl) (congrArg Prod.fst (F.1 31 (11, 13) rfl rfl)) rfl ?_
          refine x_iloadn (x := (-2)) rfl rfl ?_
          refine x_iret rfl rfl ?_
          show jX m_X11_pay 100 0 0 65 [(0, .ref 31), (1, .int a1), (2, .int a2), (3, .int a3), (4, .int a4), (5, .int a5)] [.int (-2)] _ 0 0 _
          refine x_iret rfl rfl ?_
          exact jqe (show sp_pay a1 a2 a3 a4 a5 = (-2) by unfold sp_pay; (repeat' split) <;> first | rfl | (exfalso; omega)) (hQ _ (jFb_si rfl FM) (jOl_si rfl O))
        ·
          refine x_iloadn (x := a1) rfl rfl ?_
          refine x_aloadn (x := 31) rfl rfl ?_
          refine x_getR (b := 32) 11 0 rfl f_11_10 rfl (congrArg Prod.fst (F.1 31 (11, 13) rfl rfl)) (F.2.1 3968 32 rfl rfl) ?_
          refine x_getR (b := 53) 1 10 rfl f_11_437 rfl (congrArg Prod.fst (F.1 32 (1, 20) rfl rfl)) (F.2.1 4106 53 rfl rfl) ?_
          refine y_getI (v := 0) 8 3 rfl f_11_142 rfl (congrArg Prod.fst (F.1 53 (8, 4) rfl rfl)) (F.2.2.1 6787 0 rfl rfl) ?_
          refine x_icge (tgt := 59) rfl rfl (ti_ge (show (a1 : Int32).toInt = a1.toInt from rfl) (show (0 : Int32).toInt = 0 by decide) ⟨fun c5 => ?_, fun c5 => ?_⟩)
          ·
            refine x_aloadn (x := 31) rfl rfl ?_
            refine x_bipush (v := (-2)) rfl kb_m2 ?_
            refine x_inv (N := m_X11_refuse) (As := [.int (-2)]) (b := 31) (st := []) (d' := 99) (mc := 0) (ms := 0) (host := "") 11 rfl t_X11_refuse ⟨Or.inl q_11_206, i_X11_refuse.1, i_X11_refuse.2⟩ ⟨by decide, rfl⟩ (congrArg Prod.fst (F.1 31 (11, 13) rfl rfl)) rfl (by decide) rfl rfl ⟨by decide, by decide⟩ (jC.of rfl k_X11_refuse rfl ?_)
            show jX m_X11_refuse 99 0 0 0 [(0, .ref 31), (1, .int (-2))] [] _ 0 0 _
            refine x_aloadn (x := 31) rfl rfl ?_
            refine x_iloadn (x := (-2)) rfl rfl ?_
            refine x_putI 11 12 rfl f_11_94 rfl (jfin_no TX11 RX11 13 rfl rfl) (congrArg Prod.fst (F.1 31 (11, 13) rfl rfl)) rfl ?_
            refine x_iloadn (x := (-2)) rfl rfl ?_
            refine x_iret rfl rfl ?_
            show jX m_X11_pay 100 0 0 65 [(0, .ref 31), (1, .int a1), (2, .int a2), (3, .int a3), (4, .int a4), (5, .int a5)] [.int (-2)] _ 0 0 _
            refine x_iret rfl rfl ?_
            exact jqe (show sp_pay a1 a2 a3 a4 a5 = (-2) by unfold sp_pay; (repeat' split) <;> first | rfl | (exfalso; omega)) (hQ _ (jFb_si rfl FM) (jOl_si rfl O))
          ·
            exfalso
            omega
      ·
        refine x_aloadn (x := 31) rfl rfl ?_
        refine x_iconst (v := (-1)) rfl ki_m1 ?_
        refine x_inv (N := m_X11_refuse) (As := [.int (-1)]) (b := 31) (st := []) (d' := 99) (mc := 0) (ms := 0) (host := "") 11 rfl t_X11_refuse ⟨Or.inl q_11_206, i_X11_refuse.1, i_X11_refuse.2⟩ ⟨by decide, rfl⟩ (congrArg Prod.fst (F.1 31 (11, 13) rfl rfl)) rfl (by decide) rfl rfl ⟨by decide, by decide⟩ (jC.of rfl k_X11_refuse rfl ?_)
        show jX m_X11_refuse 99 0 0 0 [(0, .ref 31), (1, .int (-1))] [] _ 0 0 _
        refine x_aloadn (x := 31) rfl rfl ?_
        refine x_iloadn (x := (-1)) rfl rfl ?_
        refine x_putI 11 12 rfl f_11_94 rfl (jfin_no TX11 RX11 13 rfl rfl) (congrArg Prod.fst (F.1 31 (11, 13) rfl rfl)) rfl ?_
        refine x_iloadn (x := (-1)) rfl rfl ?_
        refine x_iret rfl rfl ?_
        show jX m_X11_pay 100 0 0 32 [(0, .ref 31), (1, .int a1), (2, .int a2), (3, .int a3), (4, .int a4), (5, .int a5)] [.int (-1)] _ 0 0 _
        refine x_iret rfl rfl ?_
        exact jqe (show sp_pay a1 a2 a3 a4 a5 = (-1) by unfold sp_pay; (repeat' split) <;> first | rfl | (exfalso; omega)) (hQ _ (jFb_si rfl FM) (jOl_si rfl O))
set_option maxRecDepth 100000 in
set_option maxHeartbeats 40000000 in
theorem pm_pay (a1 a2 a3 a4 a5 : Int32) {xs : Nat → Int32} {h : jH} {Q : Option Value → jH → Prop} (F : jFb 125 h) (O : jOl 7 xs h) (hQ : ∀ h', jOl 7 xs h' → Q (some (.int (sp_pay a1 a2 a3 a4 a5))) h') : jC m_X12_pay 100 0 0 [.ref 125, .int a1, .int a2, .int a3, .int a4, .int a5] h Q := by
  refine jC.of rfl k_X12_pay rfl ?_
  show jX m_X12_pay 100 0 0 0 [(0, .ref 125), (1, .int a1), (2, .int a2), (3, .int a3), (4, .int a4), (5, .int a5)] [] _ 0 0 _
  refine x_aloadn (x := 125) rfl rfl ?_
  refine x_iconst (v := 0) rfl ki_0 ?_
  refine x_putI 12 0 rfl f_12_180 rfl (jfin_no TX12 RX12 92 rfl rfl) (congrArg Prod.fst (F.1 125 (12, 92) rfl rfl)) rfl ?_
  refine x_iloadn (x := a3) rfl rfl ?_
  refine x_i2l rfl ?_
  refine x_lconst (v := 1) rfl kl_1 ?_
  refine x_ldc2 (v := 1000000) rfl z_12_244 ?_
  refine x_inst (N := m_X12_in) (As := [.long (a3.toInt64), .long 1, .long 1000000]) (st := []) (d' := 99) (mc := 0) (ms := 0) (host := "") rfl t_X12_in ⟨Or.inl q_12_188, s_X12_in⟩ rfl (by decide) rfl rfl ⟨by decide, by decide⟩ (c_X12_in (m := a3.toInt) (a := 1) (b := 1000000) (jt_l _) (by decide) (by decide) ?_)
  show jX m_X12_pay 100 0 0 14 [(0, .ref 125), (1, .int a1), (2, .int a2), (3, .int a3), (4, .int a4), (5, .int a5)] [.int (jp (1 ≤ a3.toInt ∧ a3.toInt ≤ 1000000))] _ 0 0 _
  refine x_ifeq (tgt := 33) rfl rfl (jpe ⟨fun c1 => ?_, fun c1 => ?_⟩)
  ·
    refine x_aloadn (x := 125) rfl rfl ?_
    refine x_iconst (v := (-1)) rfl ki_m1 ?_
    refine x_inv (N := m_X12_told) (As := [.int (-1)]) (b := 125) (st := []) (d' := 99) (mc := 0) (ms := 0) (host := "") 12 rfl t_X12_told ⟨Or.inl q_12_197, i_X12_told.1, i_X12_told.2⟩ ⟨by decide, rfl⟩ (congrArg Prod.fst (sh_si (F.1 125 (12, 92) rfl rfl))) rfl (by decide) rfl rfl ⟨by decide, by decide⟩ (jC.of rfl k_X12_told rfl ?_)
    show jX m_X12_told 99 0 0 0 [(0, .ref 125), (1, .int (-1))] [] _ 0 0 _
    refine x_aloadn (x := 125) rfl rfl ?_
    refine x_iloadn (x := (-1)) rfl rfl ?_
    refine x_ifge (tgt := 9) rfl rfl (br_f (by decide) ?_)
    refine x_iloadn (x := (-1)) rfl rfl ?_
    refine x_goto (tgt := 10) rfl rfl ?_
    refine x_putI 12 1 rfl f_12_183 rfl (jfin_no TX12 RX12 92 rfl rfl) (congrArg Prod.fst (sh_si (F.1 125 (12, 92) rfl rfl))) rfl ?_
    refine x_iloadn (x := (-1)) rfl rfl ?_
    refine x_iret rfl rfl ?_
    show jX m_X12_pay 100 0 0 38 [(0, .ref 125), (1, .int a1), (2, .int a2), (3, .int a3), (4, .int a4), (5, .int a5)] [.int (-1)] _ 0 0 _
    refine x_iret rfl rfl ?_
    exact jqe (show sp_pay a1 a2 a3 a4 a5 = (-1) by unfold sp_pay; (repeat' split) <;> first | rfl | (exfalso; omega)) (hQ _ (jOl_si rfl (jOl_si rfl O)))
  ·
    refine x_iload (x := a4) rfl rfl ?_
    refine x_inst (N := m_X12_isDay) (As := [.int a4]) (st := []) (d' := 99) (mc := 0) (ms := 0) (host := "") rfl t_X12_isDay ⟨Or.inl q_12_273, s_X12_isDay⟩ rfl (by decide) rfl rfl ⟨by decide, by decide⟩ (c_X12_isDay (x := a4) ?_)
    show jX m_X12_pay 100 0 0 22 [(0, .ref 125), (1, .int a1), (2, .int a2), (3, .int a3), (4, .int a4), (5, .int a5)] [.int (jp (0 ≤ a4.toInt ∧ a4.toInt ≤ 146399))] _ 0 0 _
    refine x_ifeq (tgt := 33) rfl rfl (jpe ⟨fun c2 => ?_, fun c2 => ?_⟩)
    ·
      refine x_aloadn (x := 125) rfl rfl ?_
      refine x_iconst (v := (-1)) rfl ki_m1 ?_
      refine x_inv (N := m_X12_told) (As := [.int (-1)]) (b := 125) (st := []) (d' := 99) (mc := 0) (ms := 0) (host := "") 12 rfl t_X12_told ⟨Or.inl q_12_197, i_X12_told.1, i_X12_told.2⟩ ⟨by decide, rfl⟩ (congrArg Prod.fst (sh_si (F.1 125 (12, 92) rfl rfl))) rfl (by decide) rfl rfl ⟨by decide, by decide⟩ (jC.of rfl k_X12_told rfl ?_)
      show jX m_X12_told 99 0 0 0 [(0, .ref 125), (1, .int (-1))] [] _ 0 0 _
      refine x_aloadn (x := 125) rfl rfl ?_
      refine x_iloadn (x := (-1)) rfl rfl ?_
      refine x_ifge (tgt := 9) rfl rfl (br_f (by decide) ?_)
      refine x_iloadn (x := (-1)) rfl rfl ?_
      refine x_goto (tgt := 10) rfl rfl ?_
      refine x_putI 12 1 rfl f_12_183 rfl (jfin_no TX12 RX12 92 rfl rfl) (congrArg Prod.fst (sh_si (F.1 125 (12, 92) rfl rfl))) rfl ?_
      refine x_iloadn (x := (-1)) rfl rfl ?_
      refine x_iret rfl rfl ?_
      show jX m_X12_pay 100 0 0 38 [(0, .ref 125), (1, .int a1), (2, .int a2), (3, .int a3), (4, .int a4), (5, .int a5)] [.int (-1)] _ 0 0 _
      refine x_iret rfl rfl ?_
      exact jqe (show sp_pay a1 a2 a3 a4 a5 = (-1) by unfold sp_pay; (repeat' split) <;> first | rfl | (exfalso; omega)) (hQ _ (jOl_si rfl (jOl_si rfl O)))
    ·
      refine x_iload (x := a5) rfl rfl ?_
      refine x_inst (N := m_X12_isDay) (As := [.int a5]) (st := []) (d' := 99) (mc := 0) (ms := 0) (host := "") rfl t_X12_isDay ⟨Or.inl q_12_273, s_X12_isDay⟩ rfl (by decide) rfl rfl ⟨by decide, by decide⟩ (c_X12_isDay (x := a5) ?_)
      show jX m_X12_pay 100 0 0 30 [(0, .ref 125), (1, .int a1), (2, .int a2), (3, .int a3), (4, .int a4), (5, .int a5)] [.int (jp (0 ≤ a5.toInt ∧ a5.toInt ≤ 146399))] _ 0 0 _
      refine x_ifne (tgt := 39) rfl rfl (jpn ⟨fun c3 => ?_, fun c3 => ?_⟩)
      ·
        refine x_aloadn (x := 125) rfl rfl ?_
        refine x_iloadn (x := a1) rfl rfl ?_
        refine x_inv (N := m_X12_isLevy) (As := [.int a1]) (b := 125) (st := []) (d' := 99) (mc := 0) (ms := 0) (host := "") 12 rfl t_X12_isLevy ⟨Or.inl q_12_824, i_X12_isLevy.1, i_X12_isLevy.2⟩ ⟨by decide, rfl⟩ (congrArg Prod.fst (sh_si (F.1 125 (12, 92) rfl rfl))) rfl (by decide) rfl rfl ⟨by decide, by decide⟩ (jC.of rfl k_X12_isLevy rfl ?_)
        show jX m_X12_isLevy 99 0 0 0 [(0, .ref 125), (1, .int a1)] [] _ 0 0 _
        refine x_iloadn (x := a1) rfl rfl ?_
        refine x_i2l rfl ?_
        refine x_lconst (v := 0) rfl kl_0 ?_
        refine x_aloadn (x := 125) rfl rfl ?_
        refine x_getR (b := 126) 12 2 rfl f_12_8 rfl (congrArg Prod.fst (sh_si (F.1 125 (12, 92) rfl rfl))) (rv_si (F.2.1 16002 126 rfl rfl)) ?_
        refine x_bipush (v := 11) rfl kb_11 ?_
        refine y_iald (v := 0) (N := 50660) 11 rfl (sh_si (F.1 126 (100, 50660) rfl rfl)) (jinb_of (by decide)) (by decide) (iv_si rfl (F.2.2.2.1 126 rfl rfl 11).1) ?_
        refine y_i2l (v := 0) rfl (by decide) ?_
        refine x_lconst (v := 1) rfl kl_1 ?_
        refine y_lsub (v := (-1)) rfl (by decide) ?_
        refine x_inst (N := m_X12_in) (As := [.long (a1.toInt64), .long 0, .long (-1)]) (st := []) (d' := 98) (mc := 0) (ms := 0) (host := "") rfl t_X12_in ⟨Or.inl q_12_188, s_X12_in⟩ rfl (by decide) rfl rfl ⟨by decide, by decide⟩ (c_X12_in (m := a1.toInt) (a := 0) (b := (-1)) (jt_l _) (by decide) (by decide) ?_)
        show jX m_X12_isLevy 99 0 0 16 [(0, .ref 125), (1, .int a1)] [.int (jp (0 ≤ a1.toInt ∧ a1.toInt ≤ (-1)))] _ 0 0 _
        refine x_zret rfl rfl (by first | decide | exact jp_01 _) ?_
        show jX m_X12_pay 100 0 0 44 [(0, .ref 125), (1, .int a1), (2, .int a2), (3, .int a3), (4, .int a4), (5, .int a5)] [.int (jp (0 ≤ a1.toInt ∧ a1.toInt ≤ (-1)))] _ 0 0 _
        refine x_ifeq (tgt := 55) rfl rfl (jpe ⟨fun c4 => ?_, fun c4 => ?_⟩)
        ·
          refine x_aloadn (x := 125) rfl rfl ?_
          refine x_bipush (v := (-2)) rfl kb_m2 ?_
          refine x_inv (N := m_X12_told) (As := [.int (-2)]) (b := 125) (st := []) (d' := 99) (mc := 0) (ms := 0) (host := "") 12 rfl t_X12_told ⟨Or.inl q_12_197, i_X12_told.1, i_X12_told.2⟩ ⟨by decide, rfl⟩ (congrArg Prod.fst (sh_si (F.1 125 (12, 92) rfl rfl))) rfl (by decide) rfl rfl ⟨by decide, by decide⟩ (jC.of rfl k_X12_told rfl ?_)
          show jX m_X12_told 99 0 0 0 [(0, .ref 125), (1, .int (-2))] [] _ 0 0 _
          refine x_aloadn (x := 125) rfl rfl ?_
          refine x_iloadn (x := (-2)) rfl rfl ?_
          refine x_ifge (tgt := 9) rfl rfl (br_f (by decide) ?_)
          refine x_iloadn (x := (-2)) rfl rfl ?_
          refine x_goto (tgt := 10) rfl rfl ?_
          refine x_putI 12 1 rfl f_12_183 rfl (jfin_no TX12 RX12 92 rfl rfl) (congrArg Prod.fst (sh_si (F.1 125 (12, 92) rfl rfl))) rfl ?_
          refine x_iloadn (x := (-2)) rfl rfl ?_
          refine x_iret rfl rfl ?_
          show jX m_X12_pay 100 0 0 61 [(0, .ref 125), (1, .int a1), (2, .int a2), (3, .int a3), (4, .int a4), (5, .int a5)] [.int (-2)] _ 0 0 _
          refine x_iret rfl rfl ?_
          exact jqe (show sp_pay a1 a2 a3 a4 a5 = (-2) by unfold sp_pay; (repeat' split) <;> first | rfl | (exfalso; omega)) (hQ _ (jOl_si rfl (jOl_si rfl O)))
        ·
          exfalso
          omega
      ·
        refine x_aloadn (x := 125) rfl rfl ?_
        refine x_iconst (v := (-1)) rfl ki_m1 ?_
        refine x_inv (N := m_X12_told) (As := [.int (-1)]) (b := 125) (st := []) (d' := 99) (mc := 0) (ms := 0) (host := "") 12 rfl t_X12_told ⟨Or.inl q_12_197, i_X12_told.1, i_X12_told.2⟩ ⟨by decide, rfl⟩ (congrArg Prod.fst (sh_si (F.1 125 (12, 92) rfl rfl))) rfl (by decide) rfl rfl ⟨by decide, by decide⟩ (jC.of rfl k_X12_told rfl ?_)
        show jX m_X12_told 99 0 0 0 [(0, .ref 125), (1, .int (-1))] [] _ 0 0 _
        refine x_aloadn (x := 125) rfl rfl ?_
        refine x_iloadn (x := (-1)) rfl rfl ?_
        refine x_ifge (tgt := 9) rfl rfl (br_f (by decide) ?_)
        refine x_iloadn (x := (-1)) rfl rfl ?_
        refine x_goto (tgt := 10) rfl rfl ?_
        refine x_putI 12 1 rfl f_12_183 rfl (jfin_no TX12 RX12 92 rfl rfl) (congrArg Prod.fst (sh_si (F.1 125 (12, 92) rfl rfl))) rfl ?_
        refine x_iloadn (x := (-1)) rfl rfl ?_
        refine x_iret rfl rfl ?_
        show jX m_X12_pay 100 0 0 38 [(0, .ref 125), (1, .int a1), (2, .int a2), (3, .int a3), (4, .int a4), (5, .int a5)] [.int (-1)] _ 0 0 _
        refine x_iret rfl rfl ?_
        exact jqe (show sp_pay a1 a2 a3 a4 a5 = (-1) by unfold sp_pay; (repeat' split) <;> first | rfl | (exfalso; omega)) (hQ _ (jOl_si rfl (jOl_si rfl O)))
def sp_arrear (a1 a2 a3 a4 : Int32) : Int32 := (-2000000000)
set_option maxRecDepth 100000 in
set_option maxHeartbeats 40000000 in
theorem px_arrear (a1 a2 a3 a4 : Int32) {xs : Nat → Int32} {h : jH} {Q : Option Value → jH → Prop} (F : jFb 31 h) (O : jOl 7 xs h) (hQ : ∀ h', jFb 125 h' → jOl 7 xs h' → Q (some (.int (sp_arrear a1 a2 a3 a4))) h') : jC m_X11_arrear 100 0 0 [.ref 31, .int a1, .int a2, .int a3, .int a4] h Q := by
  have FM := jFb_up 125 rfl F
  refine jC.of rfl k_X11_arrear rfl ?_
  show jX m_X11_arrear 100 0 0 0 [(0, .ref 31), (1, .int a1), (2, .int a2), (3, .int a3), (4, .int a4)] [] _ 0 0 _
  refine x_iloadn (x := a3) rfl rfl ?_
  refine x_inst (N := m_X11_isDay) (As := [.int a3]) (st := []) (d' := 99) (mc := 0) (ms := 0) (host := "") rfl t_X11_isDay ⟨Or.inl q_11_115, s_X11_isDay⟩ rfl (by decide) rfl rfl ⟨by decide, by decide⟩ (c_X11_isDay (x := a3) ?_)
  show jX m_X11_arrear 100 0 0 4 [(0, .ref 31), (1, .int a1), (2, .int a2), (3, .int a3), (4, .int a4)] [.int (jp (0 ≤ a3.toInt ∧ a3.toInt ≤ 146399))] _ 0 0 _
  refine x_ifeq (tgt := 39) rfl rfl (jpe ⟨fun c1 => ?_, fun c1 => ?_⟩)
  ·
    refine x_ldcw (v := (-2000000000)) rfl z_11_455 ?_
    refine x_iret rfl rfl ?_
    exact jqe (show sp_arrear a1 a2 a3 a4 = (-2000000000) by unfold sp_arrear; (repeat' split) <;> first | rfl | (exfalso; omega)) (hQ _ FM O)
  ·
    refine x_iload (x := a4) rfl rfl ?_
    refine x_inst (N := m_X11_isDay) (As := [.int a4]) (st := []) (d' := 99) (mc := 0) (ms := 0) (host := "") rfl t_X11_isDay ⟨Or.inl q_11_115, s_X11_isDay⟩ rfl (by decide) rfl rfl ⟨by decide, by decide⟩ (c_X11_isDay (x := a4) ?_)
    show jX m_X11_arrear 100 0 0 12 [(0, .ref 31), (1, .int a1), (2, .int a2), (3, .int a3), (4, .int a4)] [.int (jp (0 ≤ a4.toInt ∧ a4.toInt ≤ 146399))] _ 0 0 _
    refine x_ifeq (tgt := 39) rfl rfl (jpe ⟨fun c2 => ?_, fun c2 => ?_⟩)
    ·
      refine x_ldcw (v := (-2000000000)) rfl z_11_455 ?_
      refine x_iret rfl rfl ?_
      exact jqe (show sp_arrear a1 a2 a3 a4 = (-2000000000) by unfold sp_arrear; (repeat' split) <;> first | rfl | (exfalso; omega)) (hQ _ FM O)
    ·
      refine x_aloadn (x := 31) rfl rfl ?_
      refine x_getR (b := 32) 11 0 rfl f_11_10 rfl (congrArg Prod.fst (F.1 31 (11, 13) rfl rfl)) (F.2.1 3968 32 rfl rfl) ?_
      refine x_getR (b := 53) 1 10 rfl f_11_437 rfl (congrArg Prod.fst (F.1 32 (1, 20) rfl rfl)) (F.2.1 4106 53 rfl rfl) ?_
      refine x_iloadn (x := a1) rfl rfl ?_
      refine x_iload (x := a4) rfl rfl ?_
      refine x_inv (N := m_X8_isKnown) (As := [.int a1, .int a4]) (b := 53) (st := []) (d' := 99) (mc := 0) (ms := 0) (host := "") 8 rfl t_X8_isKnown ⟨Or.inl q_11_440, i_X8_isKnown.1, i_X8_isKnown.2⟩ ⟨by decide, rfl⟩ (congrArg Prod.fst (F.1 53 (8, 4) rfl rfl)) rfl (by decide) rfl rfl ⟨by decide, by decide⟩ (jC.of rfl k_X8_isKnown rfl ?_)
      show jX m_X8_isKnown 99 0 0 0 [(0, .ref 53), (1, .int a1), (2, .int a4)] [] _ 0 0 _
      refine x_iloadn (x := a1) rfl rfl ?_
      refine x_iflt (tgt := 31) rfl rfl (ti_lt (show (a1 : Int32).toInt = a1.toInt from rfl) (show (0 : Int32).toInt = 0 by decide) ⟨fun c3 => ?_, fun c3 => ?_⟩)
      ·
        refine x_iconst (v := 0) rfl ki_0 ?_
        refine x_zret rfl rfl (by first | decide | exact jp_01 _) ?_
        show jX m_X11_arrear 100 0 0 28 [(0, .ref 31), (1, .int a1), (2, .int a2), (3, .int a3), (4, .int a4)] [.int 0] _ 0 0 _
        refine x_ifeq (tgt := 39) rfl rfl (br_t (by decide) ?_)
        refine x_ldcw (v := (-2000000000)) rfl z_11_455 ?_
        refine x_iret rfl rfl ?_
        exact jqe (show sp_arrear a1 a2 a3 a4 = (-2000000000) by unfold sp_arrear; (repeat' split) <;> first | rfl | (exfalso; omega)) (hQ _ FM O)
      ·
        refine x_iloadn (x := a1) rfl rfl ?_
        refine x_aloadn (x := 53) rfl rfl ?_
        refine y_getI (v := 0) 8 3 rfl f_8_7 rfl (congrArg Prod.fst (F.1 53 (8, 4) rfl rfl)) (F.2.2.1 6787 0 rfl rfl) ?_
        refine x_icge (tgt := 31) rfl rfl (ti_ge (show (a1 : Int32).toInt = a1.toInt from rfl) (show (0 : Int32).toInt = 0 by decide) ⟨fun c4 => ?_, fun c4 => ?_⟩)
        ·
          refine x_iconst (v := 0) rfl ki_0 ?_
          refine x_zret rfl rfl (by first | decide | exact jp_01 _) ?_
          show jX m_X11_arrear 100 0 0 28 [(0, .ref 31), (1, .int a1), (2, .int a2), (3, .int a3), (4, .int a4)] [.int 0] _ 0 0 _
          refine x_ifeq (tgt := 39) rfl rfl (br_t (by decide) ?_)
          refine x_ldcw (v := (-2000000000)) rfl z_11_455 ?_
          refine x_iret rfl rfl ?_
          exact jqe (show sp_arrear a1 a2 a3 a4 = (-2000000000) by unfold sp_arrear; (repeat' split) <;> first | rfl | (exfalso; omega)) (hQ _ FM O)
        ·
          exfalso
          omega
set_option maxRecDepth 100000 in
set_option maxHeartbeats 40000000 in
theorem pm_arrear (a1 a2 a3 a4 : Int32) {xs : Nat → Int32} {h : jH} {Q : Option Value → jH → Prop} (F : jFb 125 h) (O : jOl 7 xs h) (hQ : ∀ h', jOl 7 xs h' → Q (some (.int (sp_arrear a1 a2 a3 a4))) h') : jC m_X12_arrear 100 0 0 [.ref 125, .int a1, .int a2, .int a3, .int a4] h Q := by
  refine jC.of rfl k_X12_arrear rfl ?_
  show jX m_X12_arrear 100 0 0 0 [(0, .ref 125), (1, .int a1), (2, .int a2), (3, .int a3), (4, .int a4)] [] _ 0 0 _
  refine x_aloadn (x := 125) rfl rfl ?_
  refine x_iconst (v := 0) rfl ki_0 ?_
  refine x_putI 12 0 rfl f_12_180 rfl (jfin_no TX12 RX12 92 rfl rfl) (congrArg Prod.fst (F.1 125 (12, 92) rfl rfl)) rfl ?_
  refine x_aloadn (x := 125) rfl rfl ?_
  refine x_iloadn (x := a1) rfl rfl ?_
  refine x_inv (N := m_X12_isLevy) (As := [.int a1]) (b := 125) (st := []) (d' := 99) (mc := 0) (ms := 0) (host := "") 12 rfl t_X12_isLevy ⟨Or.inl q_12_824, i_X12_isLevy.1, i_X12_isLevy.2⟩ ⟨by decide, rfl⟩ (congrArg Prod.fst (sh_si (F.1 125 (12, 92) rfl rfl))) rfl (by decide) rfl rfl ⟨by decide, by decide⟩ (jC.of rfl k_X12_isLevy rfl ?_)
  show jX m_X12_isLevy 99 0 0 0 [(0, .ref 125), (1, .int a1)] [] _ 0 0 _
  refine x_iloadn (x := a1) rfl rfl ?_
  refine x_i2l rfl ?_
  refine x_lconst (v := 0) rfl kl_0 ?_
  refine x_aloadn (x := 125) rfl rfl ?_
  refine x_getR (b := 126) 12 2 rfl f_12_8 rfl (congrArg Prod.fst (sh_si (F.1 125 (12, 92) rfl rfl))) (rv_si (F.2.1 16002 126 rfl rfl)) ?_
  refine x_bipush (v := 11) rfl kb_11 ?_
  refine y_iald (v := 0) (N := 50660) 11 rfl (sh_si (F.1 126 (100, 50660) rfl rfl)) (jinb_of (by decide)) (by decide) (iv_si rfl (F.2.2.2.1 126 rfl rfl 11).1) ?_
  refine y_i2l (v := 0) rfl (by decide) ?_
  refine x_lconst (v := 1) rfl kl_1 ?_
  refine y_lsub (v := (-1)) rfl (by decide) ?_
  refine x_inst (N := m_X12_in) (As := [.long (a1.toInt64), .long 0, .long (-1)]) (st := []) (d' := 98) (mc := 0) (ms := 0) (host := "") rfl t_X12_in ⟨Or.inl q_12_188, s_X12_in⟩ rfl (by decide) rfl rfl ⟨by decide, by decide⟩ (c_X12_in (m := a1.toInt) (a := 0) (b := (-1)) (jt_l _) (by decide) (by decide) ?_)
  show jX m_X12_isLevy 99 0 0 16 [(0, .ref 125), (1, .int a1)] [.int (jp (0 ≤ a1.toInt ∧ a1.toInt ≤ (-1)))] _ 0 0 _
  refine x_zret rfl rfl (by first | decide | exact jp_01 _) ?_
  show jX m_X12_arrear 100 0 0 10 [(0, .ref 125), (1, .int a1), (2, .int a2), (3, .int a3), (4, .int a4)] [.int (jp (0 ≤ a1.toInt ∧ a1.toInt ≤ (-1)))] _ 0 0 _
  refine x_ifeq (tgt := 55) rfl rfl (jpe ⟨fun c1 => ?_, fun c1 => ?_⟩)
  ·
    refine x_ldcw (v := (-2000000000)) rfl z_12_831 ?_
    refine x_iret rfl rfl ?_
    exact jqe (show sp_arrear a1 a2 a3 a4 = (-2000000000) by unfold sp_arrear; (repeat' split) <;> first | rfl | (exfalso; omega)) (hQ _ (jOl_si rfl O))
  ·
    exfalso
    omega
def sp_turn (a1 a2 a3 a4 : Int32) : Int32 := if (0 ≤ a1.toInt ∧ a1.toInt ≤ 3) ∧ (0 ≤ a2.toInt ∧ a2.toInt ≤ 399) ∧ (0 ≤ a3.toInt ∧ a3.toInt ≤ 146399) ∧ (1 ≤ a4.toInt ∧ a4.toInt ≤ 2) then 0 else (-1)
def sp_entry (a1 a2 a3 a4 : Int32) : Int32 := if (0 ≤ a1.toInt ∧ a1.toInt ≤ 3) ∧ (0 ≤ a2.toInt ∧ a2.toInt ≤ 399) ∧ (-1000000 ≤ a3.toInt ∧ a3.toInt ≤ 1000000) ∧ (0 ≤ a4.toInt ∧ a4.toInt ≤ 146399) then 1 else (-1)
set_option maxRecDepth 100000 in
set_option maxHeartbeats 40000000 in
theorem px_entry (a1 a2 a3 a4 : Int32) {xs : Nat → Int32} {h : jH} {Q : Option Value → jH → Prop} (F : jFb 31 h) (O : jOl 7 xs h) (hQ : ∀ h', jFb 125 h' → jOl 7 xs h' → Q (some (.int (sp_entry a1 a2 a3 a4))) h') : jC m_X11_entry 100 0 0 [.ref 31, .int a1, .int a2, .int a3, .int a4] h Q := by
  have FM := jFb_up 125 rfl F
  refine jC.of rfl k_X11_entry rfl ?_
  show jX m_X11_entry 100 0 0 0 [(0, .ref 31), (1, .int a1), (2, .int a2), (3, .int a3), (4, .int a4)] [] _ 0 0 _
  refine x_iloadn (x := a1) rfl rfl ?_
  refine x_inst (N := m_X11_isOffice) (As := [.int a1]) (st := []) (d' := 99) (mc := 0) (ms := 0) (host := "") rfl t_X11_isOffice ⟨Or.inl q_11_456, s_X11_isOffice⟩ rfl (by decide) rfl rfl ⟨by decide, by decide⟩ (c_X11_isOffice (x := a1) ?_)
  show jX m_X11_entry 100 0 0 4 [(0, .ref 31), (1, .int a1), (2, .int a2), (3, .int a3), (4, .int a4)] [.int (jp (0 ≤ a1.toInt ∧ a1.toInt ≤ 3))] _ 0 0 _
  refine x_ifeq (tgt := 35) rfl rfl (jpe ⟨fun c1 => ?_, fun c1 => ?_⟩)
  ·
    refine x_aloadn (x := 31) rfl rfl ?_
    refine x_iconst (v := (-1)) rfl ki_m1 ?_
    refine x_inv (N := m_X11_refuse) (As := [.int (-1)]) (b := 31) (st := []) (d' := 99) (mc := 0) (ms := 0) (host := "") 11 rfl t_X11_refuse ⟨Or.inl q_11_206, i_X11_refuse.1, i_X11_refuse.2⟩ ⟨by decide, rfl⟩ (congrArg Prod.fst (F.1 31 (11, 13) rfl rfl)) rfl (by decide) rfl rfl ⟨by decide, by decide⟩ (jC.of rfl k_X11_refuse rfl ?_)
    show jX m_X11_refuse 99 0 0 0 [(0, .ref 31), (1, .int (-1))] [] _ 0 0 _
    refine x_aloadn (x := 31) rfl rfl ?_
    refine x_iloadn (x := (-1)) rfl rfl ?_
    refine x_putI 11 12 rfl f_11_94 rfl (jfin_no TX11 RX11 13 rfl rfl) (congrArg Prod.fst (F.1 31 (11, 13) rfl rfl)) rfl ?_
    refine x_iloadn (x := (-1)) rfl rfl ?_
    refine x_iret rfl rfl ?_
    show jX m_X11_entry 100 0 0 40 [(0, .ref 31), (1, .int a1), (2, .int a2), (3, .int a3), (4, .int a4)] [.int (-1)] _ 0 0 _
    refine x_iret rfl rfl ?_
    exact jqe (show sp_entry a1 a2 a3 a4 = (-1) by unfold sp_entry; (repeat' split) <;> first | rfl | (exfalso; omega)) (hQ _ (jFb_si rfl FM) (jOl_si rfl O))
  ·
    refine x_iloadn (x := a2) rfl rfl ?_
    refine x_inst (N := m_X11_isYear) (As := [.int a2]) (st := []) (d' := 99) (mc := 0) (ms := 0) (host := "") rfl t_X11_isYear ⟨Or.inl q_11_433, s_X11_isYear⟩ rfl (by decide) rfl rfl ⟨by decide, by decide⟩ (c_X11_isYear (x := a2) ?_)
    show jX m_X11_entry 100 0 0 11 [(0, .ref 31), (1, .int a1), (2, .int a2), (3, .int a3), (4, .int a4)] [.int (jp (0 ≤ a2.toInt ∧ a2.toInt ≤ 399))] _ 0 0 _
    refine x_ifeq (tgt := 35) rfl rfl (jpe ⟨fun c2 => ?_, fun c2 => ?_⟩)
    ·
      refine x_aloadn (x := 31) rfl rfl ?_
      refine x_iconst (v := (-1)) rfl ki_m1 ?_
      refine x_inv (N := m_X11_refuse) (As := [.int (-1)]) (b := 31) (st := []) (d' := 99) (mc := 0) (ms := 0) (host := "") 11 rfl t_X11_refuse ⟨Or.inl q_11_206, i_X11_refuse.1, i_X11_refuse.2⟩ ⟨by decide, rfl⟩ (congrArg Prod.fst (F.1 31 (11, 13) rfl rfl)) rfl (by decide) rfl rfl ⟨by decide, by decide⟩ (jC.of rfl k_X11_refuse rfl ?_)
      show jX m_X11_refuse 99 0 0 0 [(0, .ref 31), (1, .int (-1))] [] _ 0 0 _
      refine x_aloadn (x := 31) rfl rfl ?_
      refine x_iloadn (x := (-1)) rfl rfl ?_
      refine x_putI 11 12 rfl f_11_94 rfl (jfin_no TX11 RX11 13 rfl rfl) (congrArg Prod.fst (F.1 31 (11, 13) rfl rfl)) rfl ?_
      refine x_iloadn (x := (-1)) rfl rfl ?_
      refine x_iret rfl rfl ?_
      show jX m_X11_entry 100 0 0 40 [(0, .ref 31), (1, .int a1), (2, .int a2), (3, .int a3), (4, .int a4)] [.int (-1)] _ 0 0 _
      refine x_iret rfl rfl ?_
      exact jqe (show sp_entry a1 a2 a3 a4 = (-1) by unfold sp_entry; (repeat' split) <;> first | rfl | (exfalso; omega)) (hQ _ (jFb_si rfl FM) (jOl_si rfl O))
    ·
      refine x_iloadn (x := a3) rfl rfl ?_
      refine x_ldcw (v := (-1000000)) rfl z_11_472 ?_
      refine x_ldcw (v := 1000000) rfl z_11_436 ?_
      refine x_inst (N := m_X11_isWithin) (As := [.int a3, .int (-1000000), .int 1000000]) (st := []) (d' := 99) (mc := 0) (ms := 0) (host := "") rfl t_X11_isWithin ⟨Or.inl q_11_202, s_X11_isWithin⟩ rfl (by decide) rfl rfl ⟨by decide, by decide⟩ (c_X11_isWithin (m := a3.toInt) (i := (-1000000)) (j := 1000000) rfl (by decide) (by decide) ?_)
      show jX m_X11_entry 100 0 0 24 [(0, .ref 31), (1, .int a1), (2, .int a2), (3, .int a3), (4, .int a4)] [.int (jp ((-1000000) ≤ a3.toInt ∧ a3.toInt ≤ 1000000))] _ 0 0 _
      refine x_ifeq (tgt := 35) rfl rfl (jpe ⟨fun c3 => ?_, fun c3 => ?_⟩)
      ·
        refine x_aloadn (x := 31) rfl rfl ?_
        refine x_iconst (v := (-1)) rfl ki_m1 ?_
        refine x_inv (N := m_X11_refuse) (As := [.int (-1)]) (b := 31) (st := []) (d' := 99) (mc := 0) (ms := 0) (host := "") 11 rfl t_X11_refuse ⟨Or.inl q_11_206, i_X11_refuse.1, i_X11_refuse.2⟩ ⟨by decide, rfl⟩ (congrArg Prod.fst (F.1 31 (11, 13) rfl rfl)) rfl (by decide) rfl rfl ⟨by decide, by decide⟩ (jC.of rfl k_X11_refuse rfl ?_)
        show jX m_X11_refuse 99 0 0 0 [(0, .ref 31), (1, .int (-1))] [] _ 0 0 _
        refine x_aloadn (x := 31) rfl rfl ?_
        refine x_iloadn (x := (-1)) rfl rfl ?_
        refine x_putI 11 12 rfl f_11_94 rfl (jfin_no TX11 RX11 13 rfl rfl) (congrArg Prod.fst (F.1 31 (11, 13) rfl rfl)) rfl ?_
        refine x_iloadn (x := (-1)) rfl rfl ?_
        refine x_iret rfl rfl ?_
        show jX m_X11_entry 100 0 0 40 [(0, .ref 31), (1, .int a1), (2, .int a2), (3, .int a3), (4, .int a4)] [.int (-1)] _ 0 0 _
        refine x_iret rfl rfl ?_
        exact jqe (show sp_entry a1 a2 a3 a4 = (-1) by unfold sp_entry; (repeat' split) <;> first | rfl | (exfalso; omega)) (hQ _ (jFb_si rfl FM) (jOl_si rfl O))
      ·
        refine x_iload (x := a4) rfl rfl ?_
        refine x_inst (N := m_X11_isDay) (As := [.int a4]) (st := []) (d' := 99) (mc := 0) (ms := 0) (host := "") rfl t_X11_isDay ⟨Or.inl q_11_115, s_X11_isDay⟩ rfl (by decide) rfl rfl ⟨by decide, by decide⟩ (c_X11_isDay (x := a4) ?_)
        show jX m_X11_entry 100 0 0 32 [(0, .ref 31), (1, .int a1), (2, .int a2), (3, .int a3), (4, .int a4)] [.int (jp (0 ≤ a4.toInt ∧ a4.toInt ≤ 146399))] _ 0 0 _
        refine x_ifne (tgt := 41) rfl rfl (jpn ⟨fun c4 => ?_, fun c4 => ?_⟩)
        ·
          refine x_aloadn (x := 31) rfl rfl ?_
          refine x_getR (b := 32) 11 0 rfl f_11_10 rfl (congrArg Prod.fst (F.1 31 (11, 13) rfl rfl)) (F.2.1 3968 32 rfl rfl) ?_
          refine x_getR (b := 57) 1 12 rfl f_11_473 rfl (congrArg Prod.fst (F.1 32 (1, 20) rfl rfl)) (F.2.1 4108 57 rfl rfl) ?_
          refine x_inv (N := m_X8_isFull) (As := []) (b := 57) (st := []) (d' := 99) (mc := 0) (ms := 0) (host := "") 8 rfl t_X8_isFull ⟨Or.inl q_11_130, i_X8_isFull.1, i_X8_isFull.2⟩ ⟨by decide, rfl⟩ (congrArg Prod.fst (F.1 57 (8, 4) rfl rfl)) rfl (by decide) rfl rfl ⟨by decide, by decide⟩ (jC.of rfl k_X8_isFull rfl ?_)
          show jX m_X8_isFull 99 0 0 0 [(0, .ref 57)] [] _ 0 0 _
          refine x_aloadn (x := 57) rfl rfl ?_
          refine y_getI (v := 0) 8 3 rfl f_8_7 rfl (congrArg Prod.fst (F.1 57 (8, 4) rfl rfl)) (F.2.2.1 7299 0 rfl rfl) ?_
          refine x_aloadn (x := 57) rfl rfl ?_
          refine y_getI (v := 100) 8 1 rfl f_8_22 rfl (congrArg Prod.fst (F.1 57 (8, 4) rfl rfl)) (F.2.2.1 7297 100 rfl rfl) ?_
          refine x_iclt (tgt := 15) rfl rfl (br_t (by decide) ?_)
          refine x_iconst (v := 0) rfl ki_0 ?_
          refine x_zret rfl rfl (by first | decide | exact jp_01 _) ?_
          show jX m_X11_entry 100 0 0 51 [(0, .ref 31), (1, .int a1), (2, .int a2), (3, .int a3), (4, .int a4)] [.int 0] _ 0 0 _
          refine x_ifeq (tgt := 61) rfl rfl (br_t (by decide) ?_)
          refine x_aloadn (x := 31) rfl rfl ?_
          refine x_getR (b := 32) 11 0 rfl f_11_10 rfl (congrArg Prod.fst (F.1 31 (11, 13) rfl rfl)) (F.2.1 3968 32 rfl rfl) ?_
          refine x_getR (b := 57) 1 12 rfl f_11_473 rfl (congrArg Prod.fst (F.1 32 (1, 20) rfl rfl)) (F.2.1 4108 57 rfl rfl) ?_
          refine x_iload (x := a4) rfl rfl ?_
          refine x_iloadn (x := a2) rfl rfl ?_
          refine x_iloadn (x := a1) rfl rfl ?_
          refine x_iloadn (x := a3) rfl rfl ?_
          refine x_iconst (v := 0) rfl ki_0 ?_
          refine x_iconst (v := 0) rfl ki_0 ?_
          refine x_inv (N := m_X8_add) (As := [.int a4, .int a2, .int a1, .int a3, .int 0, .int 0]) (b := 57) (st := []) (d' := 99) (mc := 0) (ms := 0) (host := "") 8 rfl t_X8_add ⟨Or.inl q_11_145, i_X8_add.1, i_X8_add.2⟩ ⟨by decide, rfl⟩ (congrArg Prod.fst (F.1 57 (8, 4) rfl rfl)) rfl (by decide) rfl rfl ⟨by decide, by decide⟩ (jC.of rfl k_X8_add rfl ?_)
          show jX m_X8_add 99 0 0 0 [(0, .ref 57), (1, .int a4), (2, .int a2), (3, .int a1), (4, .int a3), (5, .int 0), (6, .int 0)] [] _ 0 0 _
          refine x_aloadn (x := 57) rfl rfl ?_
          refine y_getI (v := 0) 8 3 rfl f_8_7 rfl (congrArg Prod.fst (F.1 57 (8, 4) rfl rfl)) (F.2.2.1 7299 0 rfl rfl) ?_
          refine x_aloadn (x := 57) rfl rfl ?_
          refine y_getI (v := 100) 8 1 rfl f_8_22 rfl (congrArg Prod.fst (F.1 57 (8, 4) rfl rfl)) (F.2.2.1 7297 100 rfl rfl) ?_
          refine x_iclt (tgt := 12) rfl rfl (br_t (by decide) ?_)
          refine x_aloadn (x := 57) rfl rfl ?_
          refine y_getI (v := 0) 8 3 rfl f_8_7 rfl (congrArg Prod.fst (F.1 57 (8, 4) rfl rfl)) (F.2.2.1 7299 0 rfl rfl) ?_
          refine x_istore (ls' := [(7, .int 0), (0, .ref 57), (1, .int a4), (2, .int a2), (3, .int a1), (4, .int a3), (5, .int 0), (6, .int 0)]) rfl rfl rfl ?_
          refine x_aloadn (x := 57) rfl rfl ?_
          refine x_iload (x := 0) rfl rfl ?_
          refine x_iconst (v := 1) rfl ki_1 ?_
          refine y_iadd (v := 1) rfl (by decide) ?_
          refine x_putI 8 3 rfl f_8_7 rfl (jfin_no TX8 RX8 4 rfl rfl) (congrArg Prod.fst (F.1 57 (8, 4) rfl rfl)) rfl ?_
          refine x_aloadn (x := 57) rfl rfl ?_
          refine x_iload (x := 0) rfl rfl ?_
          refine x_iconst (v := 0) rfl ki_0 ?_
          refine x_iloadn (x := a4) rfl rfl ?_
          refine x_inv (N := m_X8_put) (As := [.int 0, .int 0, .int a4]) (b := 57) (st := []) (d' := 98) (mc := 0) (ms := 0) (host := "") 8 rfl t_X8_put ⟨Or.inl q_8_29, i_X8_put.1, i_X8_put.2⟩ ⟨by decide, rfl⟩ (congrArg Prod.fst (sh_si (F.1 57 (8, 4) rfl rfl))) rfl (by decide) rfl rfl ⟨by decide, by decide⟩ (jC.of rfl k_X8_put rfl ?_)
          show jX m_X8_put 98 0 0 0 [(0, .ref 57), (1, .int 0), (2, .int 0), (3, .int a4)] [] _ 0 0 _
          refine x_iloadn (x := 0) rfl rfl ?_
          refine x_iflt (tgt := 38) rfl rfl (br_f (by decide) ?_)
          refine x_iloadn (x := 0) rfl rfl ?_
          refine x_aloadn (x := 57) rfl rfl ?_
          refine y_getI (v := 1) 8 3 rfl f_8_7 rfl (congrArg Prod.fst (sh_si (F.1 57 (8, 4) rfl rfl))) iv_eq ?_
          refine x_icge (tgt := 38) rfl rfl (br_f (by decide) ?_)
          refine x_iloadn (x := 0) rfl rfl ?_
          refine x_iflt (tgt := 38) rfl rfl (br_f (by decide) ?_)
          refine x_iloadn (x := 0) rfl rfl ?_
          refine x_aloadn (x := 57) rfl rfl ?_
          refine y_getI (v := 4) 8 0 rfl f_8_19 rfl (congrArg Prod.fst (sh_si (F.1 57 (8, 4) rfl rfl))) (iv_si rfl (F.2.2.1 7296 4 rfl rfl)) ?_
          refine x_icge (tgt := 38) rfl rfl (br_f (by decide) ?_)
          refine x_aloadn (x := 57) rfl rfl ?_
          refine x_getR (b := 58) 8 2 rfl f_8_25 rfl (congrArg Prod.fst (sh_si (F.1 57 (8, 4) rfl rfl))) (rv_si (F.2.1 7298 58 rfl rfl)) ?_
          refine x_iloadn (x := 0) rfl rfl ?_
          refine x_aloadn (x := 57) rfl rfl ?_
          refine y_getI (v := 4) 8 0 rfl f_8_19 rfl (congrArg Prod.fst (sh_si (F.1 57 (8, 4) rfl rfl))) (iv_si rfl (F.2.2.1 7296 4 rfl rfl)) ?_
          refine y_imul (v := 0) rfl (by decide) ?_
          refine x_iloadn (x := 0) rfl rfl ?_
          refine y_iadd (v := 0) rfl (by decide) ?_
          refine x_iloadn (x := a4) rfl rfl ?_
          refine y_iast (N := 400) 0 rfl (sh_si (F.1 58 (100, 400) rfl rfl)) rfl (jinb_of (by decide)) (by decide) ?_
          refine x_vret rfl rfl ?_
          show jX m_X8_add 99 0 0 34 [(7, .int 0), (0, .ref 57), (1, .int a4), (2, .int a2), (3, .int a1), (4, .int a3), (5, .int 0), (6, .int 0)] [] _ 0 0 _
          refine x_aloadn (x := 57) rfl rfl ?_
          refine x_iload (x := 0) rfl rfl ?_
          refine x_iconst (v := 1) rfl ki_1 ?_
          refine x_iloadn (x := a2) rfl rfl ?_
          refine x_inv (N := m_X8_put) (As := [.int 0, .int 1, .int a2]) (b := 57) (st := []) (d' := 98) (mc := 0) (ms := 0) (host := "") 8 rfl t_X8_put ⟨Or.inl q_8_29, i_X8_put.1, i_X8_put.2⟩ ⟨by decide, rfl⟩ (congrArg Prod.fst (sh_si (sh_si (F.1 57 (8, 4) rfl rfl)))) rfl (by decide) rfl rfl ⟨by decide, by decide⟩ (jC.of rfl k_X8_put rfl ?_)
          show jX m_X8_put 98 0 0 0 [(0, .ref 57), (1, .int 0), (2, .int 1), (3, .int a2)] [] _ 0 0 _
          refine x_iloadn (x := 0) rfl rfl ?_
          refine x_iflt (tgt := 38) rfl rfl (br_f (by decide) ?_)
          refine x_iloadn (x := 0) rfl rfl ?_
          refine x_aloadn (x := 57) rfl rfl ?_
          refine y_getI (v := 1) 8 3 rfl f_8_7 rfl (congrArg Prod.fst (sh_si (sh_si (F.1 57 (8, 4) rfl rfl)))) (iv_si rfl iv_eq) ?_
          refine x_icge (tgt := 38) rfl rfl (br_f (by decide) ?_)
          refine x_iloadn (x := 1) rfl rfl ?_
          refine x_iflt (tgt := 38) rfl rfl (br_f (by decide) ?_)
          refine x_iloadn (x := 1) rfl rfl ?_
          refine x_aloadn (x := 57) rfl rfl ?_
          refine y_getI (v := 4) 8 0 rfl f_8_19 rfl (congrArg Prod.fst (sh_si (sh_si (F.1 57 (8, 4) rfl rfl)))) (iv_si rfl (iv_si rfl (F.2.2.1 7296 4 rfl rfl))) ?_
          refine x_icge (tgt := 38) rfl rfl (br_f (by decide) ?_)
          refine x_aloadn (x := 57) rfl rfl ?_
          refine x_getR (b := 58) 8 2 rfl f_8_25 rfl (congrArg Prod.fst (sh_si (sh_si (F.1 57 (8, 4) rfl rfl)))) (rv_si (rv_si (F.2.1 7298 58 rfl rfl))) ?_
          refine x_iloadn (x := 0) rfl rfl ?_
          refine x_aloadn (x := 57) rfl rfl ?_
          refine y_getI (v := 4) 8 0 rfl f_8_19 rfl (congrArg Prod.fst (sh_si (sh_si (F.1 57 (8, 4) rfl rfl)))) (iv_si rfl (iv_si rfl (F.2.2.1 7296 4 rfl rfl))) ?_
          refine y_imul (v := 0) rfl (by decide) ?_
          refine x_iloadn (x := 1) rfl rfl ?_
          refine y_iadd (v := 1) rfl (by decide) ?_
          refine x_iloadn (x := a2) rfl rfl ?_
          refine y_iast (N := 400) 1 rfl (sh_si (sh_si (F.1 58 (100, 400) rfl rfl))) rfl (jinb_of (by decide)) (by decide) ?_
          refine x_vret rfl rfl ?_
          show jX m_X8_add 99 0 0 42 [(7, .int 0), (0, .ref 57), (1, .int a4), (2, .int a2), (3, .int a1), (4, .int a3), (5, .int 0), (6, .int 0)] [] _ 0 0 _
          refine x_aloadn (x := 57) rfl rfl ?_
          refine x_iload (x := 0) rfl rfl ?_
          refine x_iconst (v := 2) rfl ki_2 ?_
          refine x_iloadn (x := a1) rfl rfl ?_
          refine x_inv (N := m_X8_put) (As := [.int 0, .int 2, .int a1]) (b := 57) (st := []) (d' := 98) (mc := 0) (ms := 0) (host := "") 8 rfl t_X8_put ⟨Or.inl q_8_29, i_X8_put.1, i_X8_put.2⟩ ⟨by decide, rfl⟩ (congrArg Prod.fst (sh_si (sh_si (sh_si (F.1 57 (8, 4) rfl rfl))))) rfl (by decide) rfl rfl ⟨by decide, by decide⟩ (jC.of rfl k_X8_put rfl ?_)
          show jX m_X8_put 98 0 0 0 [(0, .ref 57), (1, .int 0), (2, .int 2), (3, .int a1)] [] _ 0 0 _
          refine x_iloadn (x := 0) rfl rfl ?_
          refine x_iflt (tgt := 38) rfl rfl (br_f (by decide) ?_)
          refine x_iloadn (x := 0) rfl rfl ?_
          refine x_aloadn (x := 57) rfl rfl ?_
          refine y_getI (v := 1) 8 3 rfl f_8_7 rfl (congrArg Prod.fst (sh_si (sh_si (sh_si (F.1 57 (8, 4) rfl rfl))))) (iv_si rfl (iv_si rfl iv_eq)) ?_
          refine x_icge (tgt := 38) rfl rfl (br_f (by decide) ?_)
          refine x_iloadn (x := 2) rfl rfl ?_
          refine x_iflt (tgt := 38) rfl rfl (br_f (by decide) ?_)
          refine x_iloadn (x := 2) rfl rfl ?_
          refine x_aloadn (x := 57) rfl rfl ?_
          refine y_getI (v := 4) 8 0 rfl f_8_19 rfl (congrArg Prod.fst (sh_si (sh_si (sh_si (F.1 57 (8, 4) rfl rfl))))) (iv_si rfl (iv_si rfl (iv_si rfl (F.2.2.1 7296 4 rfl rfl)))) ?_
          refine x_icge (tgt := 38) rfl rfl (br_f (by decide) ?_)
          refine x_aloadn (x := 57) rfl rfl ?_
          refine x_getR (b := 58) 8 2 rfl f_8_25 rfl (congrArg Prod.fst (sh_si (sh_si (sh_si (F.1 57 (8, 4) rfl rfl))))) (rv_si (rv_si (rv_si (F.2.1 7298 58 rfl rfl)))) ?_
          refine x_iloadn (x := 0) rfl rfl ?_
          refine x_aloadn (x := 57) rfl rfl ?_
          refine y_getI (v := 4) 8 0 rfl f_8_19 rfl (congrArg Prod.fst (sh_si (sh_si (sh_si (F.1 57 (8, 4) rfl rfl))))) (iv_si rfl (iv_si rfl (iv_si rfl (F.2.2.1 7296 4 rfl rfl)))) ?_
          refine y_imul (v := 0) rfl (by decide) ?_
          refine x_iloadn (x := 2) rfl rfl ?_
          refine y_iadd (v := 2) rfl (by decide) ?_
          refine x_iloadn (x := a1) rfl rfl ?_
          refine y_iast (N := 400) 2 rfl (sh_si (sh_si (sh_si (F.1 58 (100, 400) rfl rfl)))) rfl (jinb_of (by decide)) (by decide) ?_
          refine x_vret rfl rfl ?_
          show jX m_X8_add 99 0 0 50 [(7, .int 0), (0, .ref 57), (1, .int a4), (2, .int a2), (3, .int a1), (4, .int a3), (5, .int 0), (6, .int 0)] [] _ 0 0 _
          refine x_aloadn (x := 57) rfl rfl ?_
          refine x_iload (x := 0) rfl rfl ?_
          refine x_iconst (v := 3) rfl ki_3 ?_
          refine x_iload (x := a3) rfl rfl ?_
          refine x_inv (N := m_X8_put) (As := [.int 0, .int 3, .int a3]) (b := 57) (st := []) (d' := 98) (mc := 0) (ms := 0) (host := "") 8 rfl t_X8_put ⟨Or.inl q_8_29, i_X8_put.1, i_X8_put.2⟩ ⟨by decide, rfl⟩ (congrArg Prod.fst (sh_si (sh_si (sh_si (sh_si (F.1 57 (8, 4) rfl rfl)))))) rfl (by decide) rfl rfl ⟨by decide, by decide⟩ (jC.of rfl k_X8_put rfl ?_)
          show jX m_X8_put 98 0 0 0 [(0, .ref 57), (1, .int 0), (2, .int 3), (3, .int a3)] [] _ 0 0 _
          refine x_iloadn (x := 0) rfl rfl ?_
          refine x_iflt (tgt := 38) rfl rfl (br_f (by decide) ?_)
          refine x_iloadn (x := 0) rfl rfl ?_
          refine x_aloadn (x := 57) rfl rfl ?_
          refine y_getI (v := 1) 8 3 rfl f_8_7 rfl (congrArg Prod.fst (sh_si (sh_si (sh_si (sh_si (F.1 57 (8, 4) rfl rfl)))))) (iv_si rfl (iv_si rfl (iv_si rfl iv_eq))) ?_
          refine x_icge (tgt := 38) rfl rfl (br_f (by decide) ?_)
          refine x_iloadn (x := 3) rfl rfl ?_
          refine x_iflt (tgt := 38) rfl rfl (br_f (by decide) ?_)
          refine x_iloadn (x := 3) rfl rfl ?_
          refine x_aloadn (x := 57) rfl rfl ?_
          refine y_getI (v := 4) 8 0 rfl f_8_19 rfl (congrArg Prod.fst (sh_si (sh_si (sh_si (sh_si (F.1 57 (8, 4) rfl rfl)))))) (iv_si rfl (iv_si rfl (iv_si rfl (iv_si rfl (F.2.2.1 7296 4 rfl rfl))))) ?_
          refine x_icge (tgt := 38) rfl rfl (br_f (by decide) ?_)
          refine x_aloadn (x := 57) rfl rfl ?_
          refine x_getR (b := 58) 8 2 rfl f_8_25 rfl (congrArg Prod.fst (sh_si (sh_si (sh_si (sh_si (F.1 57 (8, 4) rfl rfl)))))) (rv_si (rv_si (rv_si (rv_si (F.2.1 7298 58 rfl rfl))))) ?_
          refine x_iloadn (x := 0) rfl rfl ?_
          refine x_aloadn (x := 57) rfl rfl ?_
          refine y_getI (v := 4) 8 0 rfl f_8_19 rfl (congrArg Prod.fst (sh_si (sh_si (sh_si (sh_si (F.1 57 (8, 4) rfl rfl)))))) (iv_si rfl (iv_si rfl (iv_si rfl (iv_si rfl (F.2.2.1 7296 4 rfl rfl))))) ?_
          refine y_imul (v := 0) rfl (by decide) ?_
          refine x_iloadn (x := 3) rfl rfl ?_
          refine y_iadd (v := 3) rfl (by decide) ?_
          refine x_iloadn (x := a3) rfl rfl ?_
          refine y_iast (N := 400) 3 rfl (sh_si (sh_si (sh_si (sh_si (F.1 58 (100, 400) rfl rfl))))) rfl (jinb_of (by decide)) (by decide) ?_
          refine x_vret rfl rfl ?_
          show jX m_X8_add 99 0 0 59 [(7, .int 0), (0, .ref 57), (1, .int a4), (2, .int a2), (3, .int a1), (4, .int a3), (5, .int 0), (6, .int 0)] [] _ 0 0 _
          refine x_aloadn (x := 57) rfl rfl ?_
          refine x_iload (x := 0) rfl rfl ?_
          refine x_iconst (v := 4) rfl ki_4 ?_
          refine x_iload (x := 0) rfl rfl ?_
          refine x_inv (N := m_X8_put) (As := [.int 0, .int 4, .int 0]) (b := 57) (st := []) (d' := 98) (mc := 0) (ms := 0) (host := "") 8 rfl t_X8_put ⟨Or.inl q_8_29, i_X8_put.1, i_X8_put.2⟩ ⟨by decide, rfl⟩ (congrArg Prod.fst (sh_si (sh_si (sh_si (sh_si (sh_si (F.1 57 (8, 4) rfl rfl))))))) rfl (by decide) rfl rfl ⟨by decide, by decide⟩ (jC.of rfl k_X8_put rfl ?_)
          show jX m_X8_put 98 0 0 0 [(0, .ref 57), (1, .int 0), (2, .int 4), (3, .int 0)] [] _ 0 0 _
          refine x_iloadn (x := 0) rfl rfl ?_
          refine x_iflt (tgt := 38) rfl rfl (br_f (by decide) ?_)
          refine x_iloadn (x := 0) rfl rfl ?_
          refine x_aloadn (x := 57) rfl rfl ?_
          refine y_getI (v := 1) 8 3 rfl f_8_7 rfl (congrArg Prod.fst (sh_si (sh_si (sh_si (sh_si (sh_si (F.1 57 (8, 4) rfl rfl))))))) (iv_si rfl (iv_si rfl (iv_si rfl (iv_si rfl iv_eq)))) ?_
          refine x_icge (tgt := 38) rfl rfl (br_f (by decide) ?_)
          refine x_iloadn (x := 4) rfl rfl ?_
          refine x_iflt (tgt := 38) rfl rfl (br_f (by decide) ?_)
          refine x_iloadn (x := 4) rfl rfl ?_
          refine x_aloadn (x := 57) rfl rfl ?_
          refine y_getI (v := 4) 8 0 rfl f_8_19 rfl (congrArg Prod.fst (sh_si (sh_si (sh_si (sh_si (sh_si (F.1 57 (8, 4) rfl rfl))))))) (iv_si rfl (iv_si rfl (iv_si rfl (iv_si rfl (iv_si rfl (F.2.2.1 7296 4 rfl rfl)))))) ?_
          refine x_icge (tgt := 38) rfl rfl (br_t (by decide) ?_)
          refine x_vret rfl rfl ?_
          show jX m_X8_add 99 0 0 68 [(7, .int 0), (0, .ref 57), (1, .int a4), (2, .int a2), (3, .int a1), (4, .int a3), (5, .int 0), (6, .int 0)] [] _ 0 0 _
          refine x_aloadn (x := 57) rfl rfl ?_
          refine x_iload (x := 0) rfl rfl ?_
          refine x_iconst (v := 5) rfl ki_5 ?_
          refine x_iload (x := 0) rfl rfl ?_
          refine x_inv (N := m_X8_put) (As := [.int 0, .int 5, .int 0]) (b := 57) (st := []) (d' := 98) (mc := 0) (ms := 0) (host := "") 8 rfl t_X8_put ⟨Or.inl q_8_29, i_X8_put.1, i_X8_put.2⟩ ⟨by decide, rfl⟩ (congrArg Prod.fst (sh_si (sh_si (sh_si (sh_si (sh_si (F.1 57 (8, 4) rfl rfl))))))) rfl (by decide) rfl rfl ⟨by decide, by decide⟩ (jC.of rfl k_X8_put rfl ?_)
          show jX m_X8_put 98 0 0 0 [(0, .ref 57), (1, .int 0), (2, .int 5), (3, .int 0)] [] _ 0 0 _
          refine x_iloadn (x := 0) rfl rfl ?_
          refine x_iflt (tgt := 38) rfl rfl (br_f (by decide) ?_)
          refine x_iloadn (x := 0) rfl rfl ?_
          refine x_aloadn (x := 57) rfl rfl ?_
          refine y_getI (v := 1) 8 3 rfl f_8_7 rfl (congrArg Prod.fst (sh_si (sh_si (sh_si (sh_si (sh_si (F.1 57 (8, 4) rfl rfl))))))) (iv_si rfl (iv_si rfl (iv_si rfl (iv_si rfl iv_eq)))) ?_
          refine x_icge (tgt := 38) rfl rfl (br_f (by decide) ?_)
          refine x_iloadn (x := 5) rfl rfl ?_
          refine x_iflt (tgt := 38) rfl rfl (br_f (by decide) ?_)
          refine x_iloadn (x := 5) rfl rfl ?_
          refine x_aloadn (x := 57) rfl rfl ?_
          refine y_getI (v := 4) 8 0 rfl f_8_19 rfl (congrArg Prod.fst (sh_si (sh_si (sh_si (sh_si (sh_si (F.1 57 (8, 4) rfl rfl))))))) (iv_si rfl (iv_si rfl (iv_si rfl (iv_si rfl (iv_si rfl (F.2.2.1 7296 4 rfl rfl)))))) ?_
          refine x_icge (tgt := 38) rfl rfl (br_t (by decide) ?_)
          refine x_vret rfl rfl ?_
          show jX m_X8_add 99 0 0 77 [(7, .int 0), (0, .ref 57), (1, .int a4), (2, .int a2), (3, .int a1), (4, .int a3), (5, .int 0), (6, .int 0)] [] _ 0 0 _
          refine x_vret rfl rfl ?_
          show jX m_X11_entry 100 0 0 78 [(0, .ref 31), (1, .int a1), (2, .int a2), (3, .int a3), (4, .int a4)] [] _ 0 0 _
          refine x_aloadn (x := 31) rfl rfl ?_
          refine x_aloadn (x := 31) rfl rfl ?_
          refine x_getR (b := 32) 11 0 rfl f_11_10 rfl (congrArg Prod.fst (sh_si (sh_si (sh_si (sh_si (sh_si (F.1 31 (11, 13) rfl rfl))))))) (rv_si (rv_si (rv_si (rv_si (rv_si (F.2.1 3968 32 rfl rfl)))))) ?_
          refine x_getR (b := 57) 1 12 rfl f_11_473 rfl (congrArg Prod.fst (sh_si (sh_si (sh_si (sh_si (sh_si (F.1 32 (1, 20) rfl rfl))))))) (rv_si (rv_si (rv_si (rv_si (rv_si (F.2.1 4108 57 rfl rfl)))))) ?_
          refine y_getI (v := 1) 8 3 rfl f_11_142 rfl (congrArg Prod.fst (sh_si (sh_si (sh_si (sh_si (sh_si (F.1 57 (8, 4) rfl rfl))))))) (iv_si rfl (iv_si rfl (iv_si rfl (iv_si rfl iv_eq)))) ?_
          refine x_inv (N := m_X11_accept) (As := [.int 1]) (b := 31) (st := []) (d' := 99) (mc := 0) (ms := 0) (host := "") 11 rfl t_X11_accept ⟨Or.inl q_11_165, i_X11_accept.1, i_X11_accept.2⟩ ⟨by decide, rfl⟩ (congrArg Prod.fst (sh_si (sh_si (sh_si (sh_si (sh_si (F.1 31 (11, 13) rfl rfl))))))) rfl (by decide) rfl rfl ⟨by decide, by decide⟩ (jC.of rfl k_X11_accept rfl ?_)
          show jX m_X11_accept 99 0 0 0 [(0, .ref 31), (1, .int 1)] [] _ 0 0 _
          refine x_aloadn (x := 31) rfl rfl ?_
          refine x_iconst (v := 0) rfl ki_0 ?_
          refine x_putI 11 12 rfl f_11_94 rfl (jfin_no TX11 RX11 13 rfl rfl) (congrArg Prod.fst (sh_si (sh_si (sh_si (sh_si (sh_si (F.1 31 (11, 13) rfl rfl))))))) rfl ?_
          refine x_aloadn (x := 31) rfl rfl ?_
          refine x_getR (b := 32) 11 0 rfl f_11_10 rfl (congrArg Prod.fst (sh_si (sh_si (sh_si (sh_si (sh_si (sh_si (F.1 31 (11, 13) rfl rfl)))))))) (rv_si (rv_si (rv_si (rv_si (rv_si (rv_si (F.2.1 3968 32 rfl rfl))))))) ?_
          refine x_dup rfl rfl ?_
          refine y_getI (v := 1) 1 19 rfl f_11_528 rfl (congrArg Prod.fst (sh_si (sh_si (sh_si (sh_si (sh_si (sh_si (F.1 32 (1, 20) rfl rfl)))))))) (iv_si rfl (iv_si rfl (iv_si rfl (iv_si rfl (iv_si rfl (iv_si rfl (F.2.2.1 4115 1 rfl rfl))))))) ?_
          refine x_iconst (v := 1) rfl ki_1 ?_
          refine y_iadd (v := 2) rfl (by decide) ?_
          refine x_putI 1 19 rfl f_11_528 rfl (jfin_no TX1 RX1 20 rfl rfl) (congrArg Prod.fst (sh_si (sh_si (sh_si (sh_si (sh_si (sh_si (F.1 32 (1, 20) rfl rfl)))))))) rfl ?_
          refine x_iloadn (x := 1) rfl rfl ?_
          refine x_iret rfl rfl ?_
          show jX m_X11_entry 100 0 0 92 [(0, .ref 31), (1, .int a1), (2, .int a2), (3, .int a3), (4, .int a4)] [.int 1] _ 0 0 _
          refine x_iret rfl rfl ?_
          exact jqe (show sp_entry a1 a2 a3 a4 = 1 by unfold sp_entry; (repeat' split) <;> first | rfl | (exfalso; omega)) (hQ _ (jFb_si rfl (jFb_si rfl (jFb_si rfl (jFb_si rfl (jFb_si rfl (jFb_si rfl (jFb_si rfl FM))))))) (jOl_si rfl (jOl_si rfl (jOl_si rfl (jOl_si rfl (jOl_si rfl (jOl_si rfl (jOl_si rfl O))))))))
        ·
          refine x_aloadn (x := 31) rfl rfl ?_
          refine x_iconst (v := (-1)) rfl ki_m1 ?_
          refine x_inv (N := m_X11_refuse) (As := [.int (-1)]) (b := 31) (st := []) (d' := 99) (mc := 0) (ms := 0) (host := "") 11 rfl t_X11_refuse ⟨Or.inl q_11_206, i_X11_refuse.1, i_X11_refuse.2⟩ ⟨by decide, rfl⟩ (congrArg Prod.fst (F.1 31 (11, 13) rfl rfl)) rfl (by decide) rfl rfl ⟨by decide, by decide⟩ (jC.of rfl k_X11_refuse rfl ?_)
          show jX m_X11_refuse 99 0 0 0 [(0, .ref 31), (1, .int (-1))] [] _ 0 0 _
          refine x_aloadn (x := 31) rfl rfl ?_
          refine x_iloadn (x := (-1)) rfl rfl ?_
          refine x_putI 11 12 rfl f_11_94 rfl (jfin_no TX11 RX11 13 rfl rfl) (congrArg Prod.fst (F.1 31 (11, 13) rfl rfl)) rfl ?_
          refine x_iloadn (x := (-1)) rfl rfl ?_
          refine x_iret rfl rfl ?_
          show jX m_X11_entry 100 0 0 40 [(0, .ref 31), (1, .int a1), (2, .int a2), (3, .int a3), (4, .int a4)] [.int (-1)] _ 0 0 _
          refine x_iret rfl rfl ?_
          exact jqe (show sp_entry a1 a2 a3 a4 = (-1) by unfold sp_entry; (repeat' split) <;> first | rfl | (exfalso; omega)) (hQ _ (jFb_si rfl FM) (jOl_si rfl O))
set_option maxRecDepth 100000 in
set_option maxHeartbeats 40000000 in
theorem pm_entry (a1 a2 a3 a4 : Int32) {xs : Nat → Int32} {h : jH} {Q : Option Value → jH → Prop} (F : jFb 125 h) (O : jOl 7 xs h) (hQ : ∀ h', jOl 7 xs h' → Q (some (.int (sp_entry a1 a2 a3 a4))) h') : jC m_X12_entry 100 0 0 [.ref 125, .int a1, .int a2, .int a3, .int a4] h Q := by
  refine jC.of rfl k_X12_entry rfl ?_
  show jX m_X12_entry 100 0 0 0 [(0, .ref 125), (1, .int a1), (2, .int a2), (3, .int a3), (4, .int a4)] [] _ 0 0 _
  refine x_aloadn (x := 125) rfl rfl ?_
  refine x_iconst (v := 0) rfl ki_0 ?_
  refine x_putI 12 0 rfl f_12_180 rfl (jfin_no TX12 RX12 92 rfl rfl) (congrArg Prod.fst (F.1 125 (12, 92) rfl rfl)) rfl ?_
  refine x_iloadn (x := a1) rfl rfl ?_
  refine x_i2l rfl ?_
  refine x_lconst (v := 0) rfl kl_0 ?_
  refine x_ldc2 (v := 3) rfl z_12_195 ?_
  refine x_inst (N := m_X12_in) (As := [.long (a1.toInt64), .long 0, .long 3]) (st := []) (d' := 99) (mc := 0) (ms := 0) (host := "") rfl t_X12_in ⟨Or.inl q_12_188, s_X12_in⟩ rfl (by decide) rfl rfl ⟨by decide, by decide⟩ (c_X12_in (m := a1.toInt) (a := 0) (b := 3) (jt_l _) (by decide) (by decide) ?_)
  show jX m_X12_entry 100 0 0 14 [(0, .ref 125), (1, .int a1), (2, .int a2), (3, .int a3), (4, .int a4)] [.int (jp (0 ≤ a1.toInt ∧ a1.toInt ≤ 3))] _ 0 0 _
  refine x_ifeq (tgt := 46) rfl rfl (jpe ⟨fun c1 => ?_, fun c1 => ?_⟩)
  ·
    refine x_aloadn (x := 125) rfl rfl ?_
    refine x_iconst (v := (-1)) rfl ki_m1 ?_
    refine x_inv (N := m_X12_told) (As := [.int (-1)]) (b := 125) (st := []) (d' := 99) (mc := 0) (ms := 0) (host := "") 12 rfl t_X12_told ⟨Or.inl q_12_197, i_X12_told.1, i_X12_told.2⟩ ⟨by decide, rfl⟩ (congrArg Prod.fst (sh_si (F.1 125 (12, 92) rfl rfl))) rfl (by decide) rfl rfl ⟨by decide, by decide⟩ (jC.of rfl k_X12_told rfl ?_)
    show jX m_X12_told 99 0 0 0 [(0, .ref 125), (1, .int (-1))] [] _ 0 0 _
    refine x_aloadn (x := 125) rfl rfl ?_
    refine x_iloadn (x := (-1)) rfl rfl ?_
    refine x_ifge (tgt := 9) rfl rfl (br_f (by decide) ?_)
    refine x_iloadn (x := (-1)) rfl rfl ?_
    refine x_goto (tgt := 10) rfl rfl ?_
    refine x_putI 12 1 rfl f_12_183 rfl (jfin_no TX12 RX12 92 rfl rfl) (congrArg Prod.fst (sh_si (F.1 125 (12, 92) rfl rfl))) rfl ?_
    refine x_iloadn (x := (-1)) rfl rfl ?_
    refine x_iret rfl rfl ?_
    show jX m_X12_entry 100 0 0 51 [(0, .ref 125), (1, .int a1), (2, .int a2), (3, .int a3), (4, .int a4)] [.int (-1)] _ 0 0 _
    refine x_iret rfl rfl ?_
    exact jqe (show sp_entry a1 a2 a3 a4 = (-1) by unfold sp_entry; (repeat' split) <;> first | rfl | (exfalso; omega)) (hQ _ (jOl_si rfl (jOl_si rfl O)))
  ·
    refine x_iloadn (x := a2) rfl rfl ?_
    refine x_inst (N := m_X12_isYear) (As := [.int a2]) (st := []) (d' := 99) (mc := 0) (ms := 0) (host := "") rfl t_X12_isYear ⟨Or.inl q_12_817, s_X12_isYear⟩ rfl (by decide) rfl rfl ⟨by decide, by decide⟩ (c_X12_isYear (x := a2) ?_)
    show jX m_X12_entry 100 0 0 21 [(0, .ref 125), (1, .int a1), (2, .int a2), (3, .int a3), (4, .int a4)] [.int (jp (0 ≤ a2.toInt ∧ a2.toInt ≤ 399))] _ 0 0 _
    refine x_ifeq (tgt := 46) rfl rfl (jpe ⟨fun c2 => ?_, fun c2 => ?_⟩)
    ·
      refine x_aloadn (x := 125) rfl rfl ?_
      refine x_iconst (v := (-1)) rfl ki_m1 ?_
      refine x_inv (N := m_X12_told) (As := [.int (-1)]) (b := 125) (st := []) (d' := 99) (mc := 0) (ms := 0) (host := "") 12 rfl t_X12_told ⟨Or.inl q_12_197, i_X12_told.1, i_X12_told.2⟩ ⟨by decide, rfl⟩ (congrArg Prod.fst (sh_si (F.1 125 (12, 92) rfl rfl))) rfl (by decide) rfl rfl ⟨by decide, by decide⟩ (jC.of rfl k_X12_told rfl ?_)
      show jX m_X12_told 99 0 0 0 [(0, .ref 125), (1, .int (-1))] [] _ 0 0 _
      refine x_aloadn (x := 125) rfl rfl ?_
      refine x_iloadn (x := (-1)) rfl rfl ?_
      refine x_ifge (tgt := 9) rfl rfl (br_f (by decide) ?_)
      refine x_iloadn (x := (-1)) rfl rfl ?_
      refine x_goto (tgt := 10) rfl rfl ?_
      refine x_putI 12 1 rfl f_12_183 rfl (jfin_no TX12 RX12 92 rfl rfl) (congrArg Prod.fst (sh_si (F.1 125 (12, 92) rfl rfl))) rfl ?_
      refine x_iloadn (x := (-1)) rfl rfl ?_
      refine x_iret rfl rfl ?_
      show jX m_X12_entry 100 0 0 51 [(0, .ref 125), (1, .int a1), (2, .int a2), (3, .int a3), (4, .int a4)] [.int (-1)] _ 0 0 _
      refine x_iret rfl rfl ?_
      exact jqe (show sp_entry a1 a2 a3 a4 = (-1) by unfold sp_entry; (repeat' split) <;> first | rfl | (exfalso; omega)) (hQ _ (jOl_si rfl (jOl_si rfl O)))
    ·
      refine x_iloadn (x := a3) rfl rfl ?_
      refine x_i2l rfl ?_
      refine x_ldc2 (v := (-1000000)) rfl z_12_841 ?_
      refine x_ldc2 (v := 1000000) rfl z_12_244 ?_
      refine x_inst (N := m_X12_in) (As := [.long (a3.toInt64), .long (-1000000), .long 1000000]) (st := []) (d' := 99) (mc := 0) (ms := 0) (host := "") rfl t_X12_in ⟨Or.inl q_12_188, s_X12_in⟩ rfl (by decide) rfl rfl ⟨by decide, by decide⟩ (c_X12_in (m := a3.toInt) (a := (-1000000)) (b := 1000000) (jt_l _) (by decide) (by decide) ?_)
      show jX m_X12_entry 100 0 0 35 [(0, .ref 125), (1, .int a1), (2, .int a2), (3, .int a3), (4, .int a4)] [.int (jp ((-1000000) ≤ a3.toInt ∧ a3.toInt ≤ 1000000))] _ 0 0 _
      refine x_ifeq (tgt := 46) rfl rfl (jpe ⟨fun c3 => ?_, fun c3 => ?_⟩)
      ·
        refine x_aloadn (x := 125) rfl rfl ?_
        refine x_iconst (v := (-1)) rfl ki_m1 ?_
        refine x_inv (N := m_X12_told) (As := [.int (-1)]) (b := 125) (st := []) (d' := 99) (mc := 0) (ms := 0) (host := "") 12 rfl t_X12_told ⟨Or.inl q_12_197, i_X12_told.1, i_X12_told.2⟩ ⟨by decide, rfl⟩ (congrArg Prod.fst (sh_si (F.1 125 (12, 92) rfl rfl))) rfl (by decide) rfl rfl ⟨by decide, by decide⟩ (jC.of rfl k_X12_told rfl ?_)
        show jX m_X12_told 99 0 0 0 [(0, .ref 125), (1, .int (-1))] [] _ 0 0 _
        refine x_aloadn (x := 125) rfl rfl ?_
        refine x_iloadn (x := (-1)) rfl rfl ?_
        refine x_ifge (tgt := 9) rfl rfl (br_f (by decide) ?_)
        refine x_iloadn (x := (-1)) rfl rfl ?_
        refine x_goto (tgt := 10) rfl rfl ?_
        refine x_putI 12 1 rfl f_12_183 rfl (jfin_no TX12 RX12 92 rfl rfl) (congrArg Prod.fst (sh_si (F.1 125 (12, 92) rfl rfl))) rfl ?_
        refine x_iloadn (x := (-1)) rfl rfl ?_
        refine x_iret rfl rfl ?_
        show jX m_X12_entry 100 0 0 51 [(0, .ref 125), (1, .int a1), (2, .int a2), (3, .int a3), (4, .int a4)] [.int (-1)] _ 0 0 _
        refine x_iret rfl rfl ?_
        exact jqe (show sp_entry a1 a2 a3 a4 = (-1) by unfold sp_entry; (repeat' split) <;> first | rfl | (exfalso; omega)) (hQ _ (jOl_si rfl (jOl_si rfl O)))
      ·
        refine x_iload (x := a4) rfl rfl ?_
        refine x_inst (N := m_X12_isDay) (As := [.int a4]) (st := []) (d' := 99) (mc := 0) (ms := 0) (host := "") rfl t_X12_isDay ⟨Or.inl q_12_273, s_X12_isDay⟩ rfl (by decide) rfl rfl ⟨by decide, by decide⟩ (c_X12_isDay (x := a4) ?_)
        show jX m_X12_entry 100 0 0 43 [(0, .ref 125), (1, .int a1), (2, .int a2), (3, .int a3), (4, .int a4)] [.int (jp (0 ≤ a4.toInt ∧ a4.toInt ≤ 146399))] _ 0 0 _
        refine x_ifne (tgt := 52) rfl rfl (jpn ⟨fun c4 => ?_, fun c4 => ?_⟩)
        ·
          refine x_aloadn (x := 125) rfl rfl ?_
          refine x_getR (b := 126) 12 2 rfl f_12_8 rfl (congrArg Prod.fst (sh_si (F.1 125 (12, 92) rfl rfl))) (rv_si (F.2.1 16002 126 rfl rfl)) ?_
          refine x_bipush (v := 13) rfl kb_13 ?_
          refine y_iald (v := 0) (N := 50660) 13 rfl (sh_si (F.1 126 (100, 50660) rfl rfl)) (jinb_of (by decide)) (by decide) (iv_si rfl (F.2.2.2.1 126 rfl rfl 13).1) ?_
          refine x_bipush (v := 100) rfl kb_100 ?_
          refine x_icne (tgt := 71) rfl rfl (bn_t (by decide) ?_)
          refine x_aloadn (x := 125) rfl rfl ?_
          refine x_ldcw (v := 48960) rfl z_12_843 ?_
          refine x_iconst (v := 4) rfl ki_4 ?_
          refine x_aloadn (x := 125) rfl rfl ?_
          refine x_getR (b := 126) 12 2 rfl f_12_8 rfl (congrArg Prod.fst (sh_si (F.1 125 (12, 92) rfl rfl))) (rv_si (F.2.1 16002 126 rfl rfl)) ?_
          refine x_bipush (v := 13) rfl kb_13 ?_
          refine y_iald (v := 0) (N := 50660) 13 rfl (sh_si (F.1 126 (100, 50660) rfl rfl)) (jinb_of (by decide)) (by decide) (iv_si rfl (F.2.2.2.1 126 rfl rfl 13).1) ?_
          refine y_imul (v := 0) rfl (by decide) ?_
          refine y_iadd (v := 48960) rfl (by decide) ?_
          refine x_iloadn (x := a1) rfl rfl ?_
          refine x_iloadn (x := a2) rfl rfl ?_
          refine x_iloadn (x := a3) rfl rfl ?_
          refine x_iload (x := a4) rfl rfl ?_
          refine x_inv (N := m_X12_addFour) (As := [.int 48960, .int a1, .int a2, .int a3, .int a4]) (b := 125) (st := []) (d' := 99) (mc := 0) (ms := 0) (host := "") 12 rfl t_X12_addFour ⟨Or.inl q_12_814, i_X12_addFour.1, i_X12_addFour.2⟩ ⟨by decide, rfl⟩ (congrArg Prod.fst (sh_si (F.1 125 (12, 92) rfl rfl))) rfl (by decide) rfl rfl ⟨by decide, by decide⟩ (jC.of rfl k_X12_addFour rfl ?_)
          show jX m_X12_addFour 99 0 0 0 [(0, .ref 125), (1, .int 48960), (2, .int a1), (3, .int a2), (4, .int a3), (5, .int a4)] [] _ 0 0 _
          refine x_aloadn (x := 125) rfl rfl ?_
          refine x_getR (b := 126) 12 2 rfl f_12_8 rfl (congrArg Prod.fst (sh_si (F.1 125 (12, 92) rfl rfl))) (rv_si (F.2.1 16002 126 rfl rfl)) ?_
          refine x_iloadn (x := 48960) rfl rfl ?_
          refine x_iloadn (x := a1) rfl rfl ?_
          refine y_iast (N := 50660) 48960 rfl (sh_si (F.1 126 (100, 50660) rfl rfl)) rfl (jinb_of (by decide)) (by decide) ?_
          refine x_aloadn (x := 125) rfl rfl ?_
          refine x_getR (b := 126) 12 2 rfl f_12_8 rfl (congrArg Prod.fst (sh_si (sh_si (F.1 125 (12, 92) rfl rfl)))) (rv_si (rv_si (F.2.1 16002 126 rfl rfl))) ?_
          refine x_iloadn (x := 48960) rfl rfl ?_
          refine x_iconst (v := 1) rfl ki_1 ?_
          refine y_iadd (v := 48961) rfl (by decide) ?_
          refine x_iloadn (x := a2) rfl rfl ?_
          refine y_iast (N := 50660) 48961 rfl (sh_si (sh_si (F.1 126 (100, 50660) rfl rfl))) rfl (jinb_of (by decide)) (by decide) ?_
          refine x_aloadn (x := 125) rfl rfl ?_
          refine x_getR (b := 126) 12 2 rfl f_12_8 rfl (congrArg Prod.fst (sh_si (sh_si (sh_si (F.1 125 (12, 92) rfl rfl))))) (rv_si (rv_si (rv_si (F.2.1 16002 126 rfl rfl)))) ?_
          refine x_iloadn (x := 48960) rfl rfl ?_
          refine x_iconst (v := 2) rfl ki_2 ?_
          refine y_iadd (v := 48962) rfl (by decide) ?_
          refine x_iload (x := a3) rfl rfl ?_
          refine y_iast (N := 50660) 48962 rfl (sh_si (sh_si (sh_si (F.1 126 (100, 50660) rfl rfl)))) rfl (jinb_of (by decide)) (by decide) ?_
          refine x_aloadn (x := 125) rfl rfl ?_
          refine x_getR (b := 126) 12 2 rfl f_12_8 rfl (congrArg Prod.fst (sh_si (sh_si (sh_si (sh_si (F.1 125 (12, 92) rfl rfl)))))) (rv_si (rv_si (rv_si (rv_si (F.2.1 16002 126 rfl rfl))))) ?_
          refine x_iloadn (x := 48960) rfl rfl ?_
          refine x_iconst (v := 3) rfl ki_3 ?_
          refine y_iadd (v := 48963) rfl (by decide) ?_
          refine x_iload (x := a4) rfl rfl ?_
          refine y_iast (N := 50660) 48963 rfl (sh_si (sh_si (sh_si (sh_si (F.1 126 (100, 50660) rfl rfl))))) rfl (jinb_of (by decide)) (by decide) ?_
          refine x_vret rfl rfl ?_
          show jX m_X12_entry 100 0 0 93 [(0, .ref 125), (1, .int a1), (2, .int a2), (3, .int a3), (4, .int a4)] [] _ 0 0 _
          refine x_aloadn (x := 125) rfl rfl ?_
          refine x_getR (b := 126) 12 2 rfl f_12_8 rfl (congrArg Prod.fst (sh_si (sh_si (sh_si (sh_si (sh_si (F.1 125 (12, 92) rfl rfl))))))) (rv_si (rv_si (rv_si (rv_si (rv_si (F.2.1 16002 126 rfl rfl)))))) ?_
          refine x_bipush (v := 13) rfl kb_13 ?_
          refine x_dup2 rfl rfl rfl ?_
          refine y_iald (v := 0) (N := 50660) 13 rfl (sh_si (sh_si (sh_si (sh_si (sh_si (F.1 126 (100, 50660) rfl rfl)))))) (jinb_of (by decide)) (by decide) (iv_si rfl (iv_si rfl (iv_si rfl (iv_si rfl (iv_si rfl (F.2.2.2.1 126 rfl rfl 13).1))))) ?_
          refine x_iconst (v := 1) rfl ki_1 ?_
          refine y_iadd (v := 1) rfl (by decide) ?_
          refine y_iast (N := 50660) 13 rfl (sh_si (sh_si (sh_si (sh_si (sh_si (F.1 126 (100, 50660) rfl rfl)))))) rfl (jinb_of (by decide)) (by decide) ?_
          refine x_aloadn (x := 125) rfl rfl ?_
          refine x_aloadn (x := 125) rfl rfl ?_
          refine x_getR (b := 126) 12 2 rfl f_12_8 rfl (congrArg Prod.fst (sh_si (sh_si (sh_si (sh_si (sh_si (sh_si (F.1 125 (12, 92) rfl rfl)))))))) (rv_si (rv_si (rv_si (rv_si (rv_si (rv_si (F.2.1 16002 126 rfl rfl))))))) ?_
          refine x_bipush (v := 13) rfl kb_13 ?_
          refine y_iald (v := 1) (N := 50660) 13 rfl (sh_si (sh_si (sh_si (sh_si (sh_si (sh_si (F.1 126 (100, 50660) rfl rfl))))))) (jinb_of (by decide)) (by decide) iv_eq ?_
          refine x_inv (N := m_X12_told) (As := [.int 1]) (b := 125) (st := []) (d' := 99) (mc := 0) (ms := 0) (host := "") 12 rfl t_X12_told ⟨Or.inl q_12_197, i_X12_told.1, i_X12_told.2⟩ ⟨by decide, rfl⟩ (congrArg Prod.fst (sh_si (sh_si (sh_si (sh_si (sh_si (sh_si (F.1 125 (12, 92) rfl rfl)))))))) rfl (by decide) rfl rfl ⟨by decide, by decide⟩ (jC.of rfl k_X12_told rfl ?_)
          show jX m_X12_told 99 0 0 0 [(0, .ref 125), (1, .int 1)] [] _ 0 0 _
          refine x_aloadn (x := 125) rfl rfl ?_
          refine x_iloadn (x := 1) rfl rfl ?_
          refine x_ifge (tgt := 9) rfl rfl (br_t (by decide) ?_)
          refine x_iconst (v := 0) rfl ki_0 ?_
          refine x_putI 12 1 rfl f_12_183 rfl (jfin_no TX12 RX12 92 rfl rfl) (congrArg Prod.fst (sh_si (sh_si (sh_si (sh_si (sh_si (sh_si (F.1 125 (12, 92) rfl rfl)))))))) rfl ?_
          refine x_iloadn (x := 1) rfl rfl ?_
          refine x_iret rfl rfl ?_
          show jX m_X12_entry 100 0 0 115 [(0, .ref 125), (1, .int a1), (2, .int a2), (3, .int a3), (4, .int a4)] [.int 1] _ 0 0 _
          refine x_iret rfl rfl ?_
          exact jqe (show sp_entry a1 a2 a3 a4 = 1 by unfold sp_entry; (repeat' split) <;> first | rfl | (exfalso; omega)) (hQ _ (jOl_si rfl (jOl_si rfl (jOl_si rfl (jOl_si rfl (jOl_si rfl (jOl_si rfl (jOl_si rfl O))))))))
        ·
          refine x_aloadn (x := 125) rfl rfl ?_
          refine x_iconst (v := (-1)) rfl ki_m1 ?_
          refine x_inv (N := m_X12_told) (As := [.int (-1)]) (b := 125) (st := []) (d' := 99) (mc := 0) (ms := 0) (host := "") 12 rfl t_X12_told ⟨Or.inl q_12_197, i_X12_told.1, i_X12_told.2⟩ ⟨by decide, rfl⟩ (congrArg Prod.fst (sh_si (F.1 125 (12, 92) rfl rfl))) rfl (by decide) rfl rfl ⟨by decide, by decide⟩ (jC.of rfl k_X12_told rfl ?_)
          show jX m_X12_told 99 0 0 0 [(0, .ref 125), (1, .int (-1))] [] _ 0 0 _
          refine x_aloadn (x := 125) rfl rfl ?_
          refine x_iloadn (x := (-1)) rfl rfl ?_
          refine x_ifge (tgt := 9) rfl rfl (br_f (by decide) ?_)
          refine x_iloadn (x := (-1)) rfl rfl ?_
          refine x_goto (tgt := 10) rfl rfl ?_
          refine x_putI 12 1 rfl f_12_183 rfl (jfin_no TX12 RX12 92 rfl rfl) (congrArg Prod.fst (sh_si (F.1 125 (12, 92) rfl rfl))) rfl ?_
          refine x_iloadn (x := (-1)) rfl rfl ?_
          refine x_iret rfl rfl ?_
          show jX m_X12_entry 100 0 0 51 [(0, .ref 125), (1, .int a1), (2, .int a2), (3, .int a3), (4, .int a4)] [.int (-1)] _ 0 0 _
          refine x_iret rfl rfl ?_
          exact jqe (show sp_entry a1 a2 a3 a4 = (-1) by unfold sp_entry; (repeat' split) <;> first | rfl | (exfalso; omega)) (hQ _ (jOl_si rfl (jOl_si rfl O)))
def sp_close (a1 a2 a3 a4 : Int32) : Int32 := if (0 ≤ a1.toInt ∧ a1.toInt ≤ 3) ∧ (0 ≤ a2.toInt ∧ a2.toInt ≤ 399) ∧ (0 ≤ a4.toInt ∧ a4.toInt ≤ 146399) then (if a3.toInt = 0 then 0 else (-3)) else (-1)
set_option maxRecDepth 100000 in
set_option maxHeartbeats 40000000 in
theorem px_close (a1 a2 a3 a4 : Int32) {xs : Nat → Int32} {h : jH} {Q : Option Value → jH → Prop} (F : jFb 31 h) (O : jOl 7 xs h) (hQ : ∀ h', jFb 125 h' → jOl 7 xs h' → Q (some (.int (sp_close a1 a2 a3 a4))) h') : jC m_X11_close 100 0 0 [.ref 31, .int a1, .int a2, .int a3, .int a4] h Q := by
  have FM := jFb_up 125 rfl F
  refine jC.of rfl k_X11_close rfl ?_
  show jX m_X11_close 100 0 0 0 [(0, .ref 31), (1, .int a1), (2, .int a2), (3, .int a3), (4, .int a4)] [] _ 0 0 _
  refine x_iloadn (x := a1) rfl rfl ?_
  refine x_inst (N := m_X11_isOffice) (As := [.int a1]) (st := []) (d' := 99) (mc := 0) (ms := 0) (host := "") rfl t_X11_isOffice ⟨Or.inl q_11_456, s_X11_isOffice⟩ rfl (by decide) rfl rfl ⟨by decide, by decide⟩ (c_X11_isOffice (x := a1) ?_)
  show jX m_X11_close 100 0 0 4 [(0, .ref 31), (1, .int a1), (2, .int a2), (3, .int a3), (4, .int a4)] [.int (jp (0 ≤ a1.toInt ∧ a1.toInt ≤ 3))] _ 0 0 _
  refine x_ifeq (tgt := 22) rfl rfl (jpe ⟨fun c1 => ?_, fun c1 => ?_⟩)
  ·
    refine x_aloadn (x := 31) rfl rfl ?_
    refine x_iconst (v := (-1)) rfl ki_m1 ?_
    refine x_inv (N := m_X11_refuse) (As := [.int (-1)]) (b := 31) (st := []) (d' := 99) (mc := 0) (ms := 0) (host := "") 11 rfl t_X11_refuse ⟨Or.inl q_11_206, i_X11_refuse.1, i_X11_refuse.2⟩ ⟨by decide, rfl⟩ (congrArg Prod.fst (F.1 31 (11, 13) rfl rfl)) rfl (by decide) rfl rfl ⟨by decide, by decide⟩ (jC.of rfl k_X11_refuse rfl ?_)
    show jX m_X11_refuse 99 0 0 0 [(0, .ref 31), (1, .int (-1))] [] _ 0 0 _
    refine x_aloadn (x := 31) rfl rfl ?_
    refine x_iloadn (x := (-1)) rfl rfl ?_
    refine x_putI 11 12 rfl f_11_94 rfl (jfin_no TX11 RX11 13 rfl rfl) (congrArg Prod.fst (F.1 31 (11, 13) rfl rfl)) rfl ?_
    refine x_iloadn (x := (-1)) rfl rfl ?_
    refine x_iret rfl rfl ?_
    show jX m_X11_close 100 0 0 27 [(0, .ref 31), (1, .int a1), (2, .int a2), (3, .int a3), (4, .int a4)] [.int (-1)] _ 0 0 _
    refine x_iret rfl rfl ?_
    exact jqe (show sp_close a1 a2 a3 a4 = (-1) by unfold sp_close; (repeat' split) <;> first | rfl | (exfalso; omega)) (hQ _ (jFb_si rfl FM) (jOl_si rfl O))
  ·
    refine x_iloadn (x := a2) rfl rfl ?_
    refine x_inst (N := m_X11_isYear) (As := [.int a2]) (st := []) (d' := 99) (mc := 0) (ms := 0) (host := "") rfl t_X11_isYear ⟨Or.inl q_11_433, s_X11_isYear⟩ rfl (by decide) rfl rfl ⟨by decide, by decide⟩ (c_X11_isYear (x := a2) ?_)
    show jX m_X11_close 100 0 0 11 [(0, .ref 31), (1, .int a1), (2, .int a2), (3, .int a3), (4, .int a4)] [.int (jp (0 ≤ a2.toInt ∧ a2.toInt ≤ 399))] _ 0 0 _
    refine x_ifeq (tgt := 22) rfl rfl (jpe ⟨fun c2 => ?_, fun c2 => ?_⟩)
    ·
      refine x_aloadn (x := 31) rfl rfl ?_
      refine x_iconst (v := (-1)) rfl ki_m1 ?_
      refine x_inv (N := m_X11_refuse) (As := [.int (-1)]) (b := 31) (st := []) (d' := 99) (mc := 0) (ms := 0) (host := "") 11 rfl t_X11_refuse ⟨Or.inl q_11_206, i_X11_refuse.1, i_X11_refuse.2⟩ ⟨by decide, rfl⟩ (congrArg Prod.fst (F.1 31 (11, 13) rfl rfl)) rfl (by decide) rfl rfl ⟨by decide, by decide⟩ (jC.of rfl k_X11_refuse rfl ?_)
      show jX m_X11_refuse 99 0 0 0 [(0, .ref 31), (1, .int (-1))] [] _ 0 0 _
      refine x_aloadn (x := 31) rfl rfl ?_
      refine x_iloadn (x := (-1)) rfl rfl ?_
      refine x_putI 11 12 rfl f_11_94 rfl (jfin_no TX11 RX11 13 rfl rfl) (congrArg Prod.fst (F.1 31 (11, 13) rfl rfl)) rfl ?_
      refine x_iloadn (x := (-1)) rfl rfl ?_
      refine x_iret rfl rfl ?_
      show jX m_X11_close 100 0 0 27 [(0, .ref 31), (1, .int a1), (2, .int a2), (3, .int a3), (4, .int a4)] [.int (-1)] _ 0 0 _
      refine x_iret rfl rfl ?_
      exact jqe (show sp_close a1 a2 a3 a4 = (-1) by unfold sp_close; (repeat' split) <;> first | rfl | (exfalso; omega)) (hQ _ (jFb_si rfl FM) (jOl_si rfl O))
    ·
      refine x_iload (x := a4) rfl rfl ?_
      refine x_inst (N := m_X11_isDay) (As := [.int a4]) (st := []) (d' := 99) (mc := 0) (ms := 0) (host := "") rfl t_X11_isDay ⟨Or.inl q_11_115, s_X11_isDay⟩ rfl (by decide) rfl rfl ⟨by decide, by decide⟩ (c_X11_isDay (x := a4) ?_)
      show jX m_X11_close 100 0 0 19 [(0, .ref 31), (1, .int a1), (2, .int a2), (3, .int a3), (4, .int a4)] [.int (jp (0 ≤ a4.toInt ∧ a4.toInt ≤ 146399))] _ 0 0 _
      refine x_ifne (tgt := 28) rfl rfl (jpn ⟨fun c3 => ?_, fun c3 => ?_⟩)
      ·
        refine x_aloadn (x := 31) rfl rfl ?_
        refine x_iloadn (x := a1) rfl rfl ?_
        refine x_inv (N := m_X11_lastClosed) (As := [.int a1]) (b := 31) (st := []) (d' := 99) (mc := 0) (ms := 0) (host := "") 11 rfl t_X11_lastClosed ⟨Or.inl q_11_476, i_X11_lastClosed.1, i_X11_lastClosed.2⟩ ⟨by decide, rfl⟩ (congrArg Prod.fst (F.1 31 (11, 13) rfl rfl)) rfl (by decide) rfl rfl ⟨by decide, by decide⟩ (jC.of rfl k_X11_lastClosed rfl ?_)
        show jX m_X11_lastClosed 99 0 0 0 [(0, .ref 31), (1, .int a1)] [] _ 0 0 _
        refine x_aloadn (x := 31) rfl rfl ?_
        refine x_getR (b := 32) 11 0 rfl f_11_10 rfl (congrArg Prod.fst (F.1 31 (11, 13) rfl rfl)) (F.2.1 3968 32 rfl rfl) ?_
        refine x_getR (b := 59) 1 13 rfl f_11_482 rfl (congrArg Prod.fst (F.1 32 (1, 20) rfl rfl)) (F.2.1 4109 59 rfl rfl) ?_
        refine y_getI (v := 0) 8 3 rfl f_11_142 rfl (congrArg Prod.fst (F.1 59 (8, 4) rfl rfl)) (F.2.2.1 7555 0 rfl rfl) ?_
        refine x_iconst (v := 1) rfl ki_1 ?_
        refine y_isub (v := (-1)) rfl (by decide) ?_
        refine x_istoren (ls' := [(2, .int (-1)), (0, .ref 31), (1, .int a1)]) rfl rfl rfl ?_
        refine x_iloadn (x := (-1)) rfl rfl ?_
        refine x_iflt (tgt := 52) rfl rfl (br_t (by decide) ?_)
        refine x_iconst (v := (-1)) rfl ki_m1 ?_
        refine x_iret rfl rfl ?_
        show jX m_X11_close 100 0 0 33 [(0, .ref 31), (1, .int a1), (2, .int a2), (3, .int a3), (4, .int a4)] [.int (-1)] _ 0 0 _
        refine x_istore (ls' := [(5, .int (-1)), (0, .ref 31), (1, .int a1), (2, .int a2), (3, .int a3), (4, .int a4)]) rfl rfl rfl ?_
        refine x_iload (x := (-1)) rfl rfl ?_
        refine x_iconst (v := (-1)) rfl ki_m1 ?_
        refine x_iceq (tgt := 49) rfl rfl (br_t (by decide) ?_)
        refine x_iloadn (x := a3) rfl rfl ?_
        refine x_aloadn (x := 31) rfl rfl ?_
        refine x_iloadn (x := a1) rfl rfl ?_
        refine x_iloadn (x := a2) rfl rfl ?_
        refine x_iload (x := a4) rfl rfl ?_
        refine x_inv (N := m_X11_balanceOf) (As := [.int a1, .int a2, .int a4]) (b := 31) (st := [.int a3]) (d' := 99) (mc := 0) (ms := 0) (host := "") 11 rfl t_X11_balanceOf ⟨Or.inl q_11_479, i_X11_balanceOf.1, i_X11_balanceOf.2⟩ ⟨by decide, rfl⟩ (congrArg Prod.fst (F.1 31 (11, 13) rfl rfl)) rfl (by decide) rfl rfl ⟨by decide, by decide⟩ (jC.of rfl k_X11_balanceOf rfl ?_)
        show jX m_X11_balanceOf 99 0 0 0 [(0, .ref 31), (1, .int a1), (2, .int a2), (3, .int a4)] [] _ 0 0 _
        refine x_iconst (v := 0) rfl ki_0 ?_
        refine x_istore (ls' := [(4, .int 0), (0, .ref 31), (1, .int a1), (2, .int a2), (3, .int a4)]) rfl rfl rfl ?_
        refine x_aloadn (x := 31) rfl rfl ?_
        refine x_iloadn (x := a1) rfl rfl ?_
        refine x_iloadn (x := a2) rfl rfl ?_
        refine x_iconst (v := 1) rfl ki_1 ?_
        refine x_isub rfl ?_
        have c4 := jsubf (x := a2) (y := 1) (show (a2 : Int32).toInt = a2.toInt from rfl) (show (1 : Int32).toInt = 1 by decide) (by omega)
        refine x_inv (N := m_X11_closing) (As := [.int a1, .int (a2 - 1)]) (b := 31) (st := []) (d' := 98) (mc := 0) (ms := 0) (host := "") 11 rfl t_X11_closing ⟨Or.inl q_11_567, i_X11_closing.1, i_X11_closing.2⟩ ⟨by decide, rfl⟩ (congrArg Prod.fst (F.1 31 (11, 13) rfl rfl)) rfl (by decide) rfl rfl ⟨by decide, by decide⟩ (jC.of rfl k_X11_closing rfl ?_)
        show jX m_X11_closing 98 0 0 0 [(0, .ref 31), (1, .int a1), (2, .int (a2 - 1))] [] _ 0 0 _
        refine x_iconst (v := 0) rfl ki_0 ?_
        refine x_istoren (ls' := [(3, .int 0), (0, .ref 31), (1, .int a1), (2, .int (a2 - 1))]) rfl rfl rfl ?_
        refine x_iloadn (x := 0) rfl rfl ?_
        refine x_aloadn (x := 31) rfl rfl ?_
        refine x_getR (b := 32) 11 0 rfl f_11_10 rfl (congrArg Prod.fst (F.1 31 (11, 13) rfl rfl)) (F.2.1 3968 32 rfl rfl) ?_
        refine x_getR (b := 59) 1 13 rfl f_11_482 rfl (congrArg Prod.fst (F.1 32 (1, 20) rfl rfl)) (F.2.1 4109 59 rfl rfl) ?_
        refine y_getI (v := 0) 8 3 rfl f_11_142 rfl (congrArg Prod.fst (F.1 59 (8, 4) rfl rfl)) (F.2.2.1 7555 0 rfl rfl) ?_
        refine x_icge (tgt := 56) rfl rfl (br_t (by decide) ?_)
        refine x_iconst (v := (-1)) rfl ki_m1 ?_
        refine x_iret rfl rfl ?_
        show jX m_X11_balanceOf 99 0 0 11 [(4, .int 0), (0, .ref 31), (1, .int a1), (2, .int a2), (3, .int a4)] [.int (-1)] _ 0 0 _
        refine x_istore (ls' := [(5, .int (-1)), (4, .int 0), (0, .ref 31), (1, .int a1), (2, .int a2), (3, .int a4)]) rfl rfl rfl ?_
        refine x_iload (x := (-1)) rfl rfl ?_
        refine x_iconst (v := (-1)) rfl ki_m1 ?_
        refine x_iceq (tgt := 51) rfl rfl (br_t (by decide) ?_)
        refine x_iconst (v := 0) rfl ki_0 ?_
        refine x_istore (ls' := [(6, .int 0), (5, .int (-1)), (4, .int 0), (0, .ref 31), (1, .int a1), (2, .int a2), (3, .int a4)]) rfl rfl rfl ?_
        refine x_iload (x := 0) rfl rfl ?_
        refine x_aloadn (x := 31) rfl rfl ?_
        refine x_getR (b := 32) 11 0 rfl f_11_10 rfl (congrArg Prod.fst (F.1 31 (11, 13) rfl rfl)) (F.2.1 3968 32 rfl rfl) ?_
        refine x_getR (b := 57) 1 12 rfl f_11_473 rfl (congrArg Prod.fst (F.1 32 (1, 20) rfl rfl)) (F.2.1 4108 57 rfl rfl) ?_
        refine y_getI (v := 0) 8 3 rfl f_11_142 rfl (congrArg Prod.fst (F.1 57 (8, 4) rfl rfl)) (F.2.2.1 7299 0 rfl rfl) ?_
        refine x_icge (tgt := 136) rfl rfl (br_t (by decide) ?_)
        refine x_iload (x := 0) rfl rfl ?_
        refine x_iret rfl rfl ?_
        show jX m_X11_close 100 0 0 58 [(5, .int (-1)), (0, .ref 31), (1, .int a1), (2, .int a2), (3, .int a3), (4, .int a4)] [.int 0, .int a3] _ 0 0 _
        refine x_iceq (tgt := 68) rfl rfl (ti_eq (show (a3 : Int32).toInt = a3.toInt from rfl) (show (0 : Int32).toInt = 0 by decide) ⟨fun c5 => ?_, fun c5 => ?_⟩)
        ·
          refine x_aloadn (x := 31) rfl rfl ?_
          refine x_getR (b := 32) 11 0 rfl f_11_10 rfl (congrArg Prod.fst (F.1 31 (11, 13) rfl rfl)) (F.2.1 3968 32 rfl rfl) ?_
          refine x_getR (b := 59) 1 13 rfl f_11_482 rfl (congrArg Prod.fst (F.1 32 (1, 20) rfl rfl)) (F.2.1 4109 59 rfl rfl) ?_
          refine x_inv (N := m_X8_isFull) (As := []) (b := 59) (st := []) (d' := 99) (mc := 0) (ms := 0) (host := "") 8 rfl t_X8_isFull ⟨Or.inl q_11_130, i_X8_isFull.1, i_X8_isFull.2⟩ ⟨by decide, rfl⟩ (congrArg Prod.fst (F.1 59 (8, 4) rfl rfl)) rfl (by decide) rfl rfl ⟨by decide, by decide⟩ (jC.of rfl k_X8_isFull rfl ?_)
          show jX m_X8_isFull 99 0 0 0 [(0, .ref 59)] [] _ 0 0 _
          refine x_aloadn (x := 59) rfl rfl ?_
          refine y_getI (v := 0) 8 3 rfl f_8_7 rfl (congrArg Prod.fst (F.1 59 (8, 4) rfl rfl)) (F.2.2.1 7555 0 rfl rfl) ?_
          refine x_aloadn (x := 59) rfl rfl ?_
          refine y_getI (v := 40) 8 1 rfl f_8_22 rfl (congrArg Prod.fst (F.1 59 (8, 4) rfl rfl)) (F.2.2.1 7553 40 rfl rfl) ?_
          refine x_iclt (tgt := 15) rfl rfl (br_t (by decide) ?_)
          refine x_iconst (v := 0) rfl ki_0 ?_
          refine x_zret rfl rfl (by first | decide | exact jp_01 _) ?_
          show jX m_X11_close 100 0 0 78 [(5, .int (-1)), (0, .ref 31), (1, .int a1), (2, .int a2), (3, .int a3), (4, .int a4)] [.int 0] _ 0 0 _
          refine x_ifeq (tgt := 88) rfl rfl (br_t (by decide) ?_)
          refine x_aloadn (x := 31) rfl rfl ?_
          refine x_getR (b := 32) 11 0 rfl f_11_10 rfl (congrArg Prod.fst (F.1 31 (11, 13) rfl rfl)) (F.2.1 3968 32 rfl rfl) ?_
          refine x_getR (b := 59) 1 13 rfl f_11_482 rfl (congrArg Prod.fst (F.1 32 (1, 20) rfl rfl)) (F.2.1 4109 59 rfl rfl) ?_
          refine x_iload (x := a4) rfl rfl ?_
          refine x_iloadn (x := a2) rfl rfl ?_
          refine x_iloadn (x := a1) rfl rfl ?_
          refine x_iloadn (x := a3) rfl rfl ?_
          refine x_iconst (v := 0) rfl ki_0 ?_
          refine x_iconst (v := 0) rfl ki_0 ?_
          refine x_inv (N := m_X8_add) (As := [.int a4, .int a2, .int a1, .int a3, .int 0, .int 0]) (b := 59) (st := []) (d' := 99) (mc := 0) (ms := 0) (host := "") 8 rfl t_X8_add ⟨Or.inl q_11_145, i_X8_add.1, i_X8_add.2⟩ ⟨by decide, rfl⟩ (congrArg Prod.fst (F.1 59 (8, 4) rfl rfl)) rfl (by decide) rfl rfl ⟨by decide, by decide⟩ (jC.of rfl k_X8_add rfl ?_)
          show jX m_X8_add 99 0 0 0 [(0, .ref 59), (1, .int a4), (2, .int a2), (3, .int a1), (4, .int a3), (5, .int 0), (6, .int 0)] [] _ 0 0 _
          refine x_aloadn (x := 59) rfl rfl ?_
          refine y_getI (v := 0) 8 3 rfl f_8_7 rfl (congrArg Prod.fst (F.1 59 (8, 4) rfl rfl)) (F.2.2.1 7555 0 rfl rfl) ?_
          refine x_aloadn (x := 59) rfl rfl ?_
          refine y_getI (v := 40) 8 1 rfl f_8_22 rfl (congrArg Prod.fst (F.1 59 (8, 4) rfl rfl)) (F.2.2.1 7553 40 rfl rfl) ?_
          refine x_iclt (tgt := 12) rfl rfl (br_t (by decide) ?_)
          refine x_aloadn (x := 59) rfl rfl ?_
          refine y_getI (v := 0) 8 3 rfl f_8_7 rfl (congrArg Prod.fst (F.1 59 (8, 4) rfl rfl)) (F.2.2.1 7555 0 rfl rfl) ?_
          refine x_istore (ls' := [(7, .int 0), (0, .ref 59), (1, .int a4), (2, .int a2), (3, .int a1), (4, .int a3), (5, .int 0), (6, .int 0)]) rfl rfl rfl ?_
          refine x_aloadn (x := 59) rfl rfl ?_
          refine x_iload (x := 0) rfl rfl ?_
          refine x_iconst (v := 1) rfl ki_1 ?_
          refine y_iadd (v := 1) rfl (by decide) ?_
          refine x_putI 8 3 rfl f_8_7 rfl (jfin_no TX8 RX8 4 rfl rfl) (congrArg Prod.fst (F.1 59 (8, 4) rfl rfl)) rfl ?_
          refine x_aloadn (x := 59) rfl rfl ?_
          refine x_iload (x := 0) rfl rfl ?_
          refine x_iconst (v := 0) rfl ki_0 ?_
          refine x_iloadn (x := a4) rfl rfl ?_
          refine x_inv (N := m_X8_put) (As := [.int 0, .int 0, .int a4]) (b := 59) (st := []) (d' := 98) (mc := 0) (ms := 0) (host := "") 8 rfl t_X8_put ⟨Or.inl q_8_29, i_X8_put.1, i_X8_put.2⟩ ⟨by decide, rfl⟩ (congrArg Prod.fst (sh_si (F.1 59 (8, 4) rfl rfl))) rfl (by decide) rfl rfl ⟨by decide, by decide⟩ (jC.of rfl k_X8_put rfl ?_)
          show jX m_X8_put 98 0 0 0 [(0, .ref 59), (1, .int 0), (2, .int 0), (3, .int a4)] [] _ 0 0 _
          refine x_iloadn (x := 0) rfl rfl ?_
          refine x_iflt (tgt := 38) rfl rfl (br_f (by decide) ?_)
          refine x_iloadn (x := 0) rfl rfl ?_
          refine x_aloadn (x := 59) rfl rfl ?_
          refine y_getI (v := 1) 8 3 rfl f_8_7 rfl (congrArg Prod.fst (sh_si (F.1 59 (8, 4) rfl rfl))) iv_eq ?_
          refine x_icge (tgt := 38) rfl rfl (br_f (by decide) ?_)
          refine x_iloadn (x := 0) rfl rfl ?_
          refine x_iflt (tgt := 38) rfl rfl (br_f (by decide) ?_)
          refine x_iloadn (x := 0) rfl rfl ?_
          refine x_aloadn (x := 59) rfl rfl ?_
          refine y_getI (v := 4) 8 0 rfl f_8_19 rfl (congrArg Prod.fst (sh_si (F.1 59 (8, 4) rfl rfl))) (iv_si rfl (F.2.2.1 7552 4 rfl rfl)) ?_
          refine x_icge (tgt := 38) rfl rfl (br_f (by decide) ?_)
          refine x_aloadn (x := 59) rfl rfl ?_
          refine x_getR (b := 60) 8 2 rfl f_8_25 rfl (congrArg Prod.fst (sh_si (F.1 59 (8, 4) rfl rfl))) (rv_si (F.2.1 7554 60 rfl rfl)) ?_
          refine x_iloadn (x := 0) rfl rfl ?_
          refine x_aloadn (x := 59) rfl rfl ?_
          refine y_getI (v := 4) 8 0 rfl f_8_19 rfl (congrArg Prod.fst (sh_si (F.1 59 (8, 4) rfl rfl))) (iv_si rfl (F.2.2.1 7552 4 rfl rfl)) ?_
          refine y_imul (v := 0) rfl (by decide) ?_
          refine x_iloadn (x := 0) rfl rfl ?_
          refine y_iadd (v := 0) rfl (by decide) ?_
          refine x_iloadn (x := a4) rfl rfl ?_
          refine y_iast (N := 160) 0 rfl (sh_si (F.1 60 (100, 160) rfl rfl)) rfl (jinb_of (by decide)) (by decide) ?_
          refine x_vret rfl rfl ?_
          show jX m_X8_add 99 0 0 34 [(7, .int 0), (0, .ref 59), (1, .int a4), (2, .int a2), (3, .int a1), (4, .int a3), (5, .int 0), (6, .int 0)] [] _ 0 0 _
          refine x_aloadn (x := 59) rfl rfl ?_
          refine x_iload (x := 0) rfl rfl ?_
          refine x_iconst (v := 1) rfl ki_1 ?_
          refine x_iloadn (x := a2) rfl rfl ?_
          refine x_inv (N := m_X8_put) (As := [.int 0, .int 1, .int a2]) (b := 59) (st := []) (d' := 98) (mc := 0) (ms := 0) (host := "") 8 rfl t_X8_put ⟨Or.inl q_8_29, i_X8_put.1, i_X8_put.2⟩ ⟨by decide, rfl⟩ (congrArg Prod.fst (sh_si (sh_si (F.1 59 (8, 4) rfl rfl)))) rfl (by decide) rfl rfl ⟨by decide, by decide⟩ (jC.of rfl k_X8_put rfl ?_)
          show jX m_X8_put 98 0 0 0 [(0, .ref 59), (1, .int 0), (2, .int 1), (3, .int a2)] [] _ 0 0 _
          refine x_iloadn (x := 0) rfl rfl ?_
          refine x_iflt (tgt := 38) rfl rfl (br_f (by decide) ?_)
          refine x_iloadn (x := 0) rfl rfl ?_
          refine x_aloadn (x := 59) rfl rfl ?_
          refine y_getI (v := 1) 8 3 rfl f_8_7 rfl (congrArg Prod.fst (sh_si (sh_si (F.1 59 (8, 4) rfl rfl)))) (iv_si rfl iv_eq) ?_
          refine x_icge (tgt := 38) rfl rfl (br_f (by decide) ?_)
          refine x_iloadn (x := 1) rfl rfl ?_
          refine x_iflt (tgt := 38) rfl rfl (br_f (by decide) ?_)
          refine x_iloadn (x := 1) rfl rfl ?_
          refine x_aloadn (x := 59) rfl rfl ?_
          refine y_getI (v := 4) 8 0 rfl f_8_19 rfl (congrArg Prod.fst (sh_si (sh_si (F.1 59 (8, 4) rfl rfl)))) (iv_si rfl (iv_si rfl (F.2.2.1 7552 4 rfl rfl))) ?_
          refine x_icge (tgt := 38) rfl rfl (br_f (by decide) ?_)
          refine x_aloadn (x := 59) rfl rfl ?_
          refine x_getR (b := 60) 8 2 rfl f_8_25 rfl (congrArg Prod.fst (sh_si (sh_si (F.1 59 (8, 4) rfl rfl)))) (rv_si (rv_si (F.2.1 7554 60 rfl rfl))) ?_
          refine x_iloadn (x := 0) rfl rfl ?_
          refine x_aloadn (x := 59) rfl rfl ?_
          refine y_getI (v := 4) 8 0 rfl f_8_19 rfl (congrArg Prod.fst (sh_si (sh_si (F.1 59 (8, 4) rfl rfl)))) (iv_si rfl (iv_si rfl (F.2.2.1 7552 4 rfl rfl))) ?_
          refine y_imul (v := 0) rfl (by decide) ?_
          refine x_iloadn (x := 1) rfl rfl ?_
          refine y_iadd (v := 1) rfl (by decide) ?_
          refine x_iloadn (x := a2) rfl rfl ?_
          refine y_iast (N := 160) 1 rfl (sh_si (sh_si (F.1 60 (100, 160) rfl rfl))) rfl (jinb_of (by decide)) (by decide) ?_
          refine x_vret rfl rfl ?_
          show jX m_X8_add 99 0 0 42 [(7, .int 0), (0, .ref 59), (1, .int a4), (2, .int a2), (3, .int a1), (4, .int a3), (5, .int 0), (6, .int 0)] [] _ 0 0 _
          refine x_aloadn (x := 59) rfl rfl ?_
          refine x_iload (x := 0) rfl rfl ?_
          refine x_iconst (v := 2) rfl ki_2 ?_
          refine x_iloadn (x := a1) rfl rfl ?_
          refine x_inv (N := m_X8_put) (As := [.int 0, .int 2, .int a1]) (b := 59) (st := []) (d' := 98) (mc := 0) (ms := 0) (host := "") 8 rfl t_X8_put ⟨Or.inl q_8_29, i_X8_put.1, i_X8_put.2⟩ ⟨by decide, rfl⟩ (congrArg Prod.fst (sh_si (sh_si (sh_si (F.1 59 (8, 4) rfl rfl))))) rfl (by decide) rfl rfl ⟨by decide, by decide⟩ (jC.of rfl k_X8_put rfl ?_)
          show jX m_X8_put 98 0 0 0 [(0, .ref 59), (1, .int 0), (2, .int 2), (3, .int a1)] [] _ 0 0 _
          refine x_iloadn (x := 0) rfl rfl ?_
          refine x_iflt (tgt := 38) rfl rfl (br_f (by decide) ?_)
          refine x_iloadn (x := 0) rfl rfl ?_
          refine x_aloadn (x := 59) rfl rfl ?_
          refine y_getI (v := 1) 8 3 rfl f_8_7 rfl (congrArg Prod.fst (sh_si (sh_si (sh_si (F.1 59 (8, 4) rfl rfl))))) (iv_si rfl (iv_si rfl iv_eq)) ?_
          refine x_icge (tgt := 38) rfl rfl (br_f (by decide) ?_)
          refine x_iloadn (x := 2) rfl rfl ?_
          refine x_iflt (tgt := 38) rfl rfl (br_f (by decide) ?_)
          refine x_iloadn (x := 2) rfl rfl ?_
          refine x_aloadn (x := 59) rfl rfl ?_
          refine y_getI (v := 4) 8 0 rfl f_8_19 rfl (congrArg Prod.fst (sh_si (sh_si (sh_si (F.1 59 (8, 4) rfl rfl))))) (iv_si rfl (iv_si rfl (iv_si rfl (F.2.2.1 7552 4 rfl rfl)))) ?_
          refine x_icge (tgt := 38) rfl rfl (br_f (by decide) ?_)
          refine x_aloadn (x := 59) rfl rfl ?_
          refine x_getR (b := 60) 8 2 rfl f_8_25 rfl (congrArg Prod.fst (sh_si (sh_si (sh_si (F.1 59 (8, 4) rfl rfl))))) (rv_si (rv_si (rv_si (F.2.1 7554 60 rfl rfl)))) ?_
          refine x_iloadn (x := 0) rfl rfl ?_
          refine x_aloadn (x := 59) rfl rfl ?_
          refine y_getI (v := 4) 8 0 rfl f_8_19 rfl (congrArg Prod.fst (sh_si (sh_si (sh_si (F.1 59 (8, 4) rfl rfl))))) (iv_si rfl (iv_si rfl (iv_si rfl (F.2.2.1 7552 4 rfl rfl)))) ?_
          refine y_imul (v := 0) rfl (by decide) ?_
          refine x_iloadn (x := 2) rfl rfl ?_
          refine y_iadd (v := 2) rfl (by decide) ?_
          refine x_iloadn (x := a1) rfl rfl ?_
          refine y_iast (N := 160) 2 rfl (sh_si (sh_si (sh_si (F.1 60 (100, 160) rfl rfl)))) rfl (jinb_of (by decide)) (by decide) ?_
          refine x_vret rfl rfl ?_
          show jX m_X8_add 99 0 0 50 [(7, .int 0), (0, .ref 59), (1, .int a4), (2, .int a2), (3, .int a1), (4, .int a3), (5, .int 0), (6, .int 0)] [] _ 0 0 _
          refine x_aloadn (x := 59) rfl rfl ?_
          refine x_iload (x := 0) rfl rfl ?_
          refine x_iconst (v := 3) rfl ki_3 ?_
          refine x_iload (x := a3) rfl rfl ?_
          refine x_inv (N := m_X8_put) (As := [.int 0, .int 3, .int a3]) (b := 59) (st := []) (d' := 98) (mc := 0) (ms := 0) (host := "") 8 rfl t_X8_put ⟨Or.inl q_8_29, i_X8_put.1, i_X8_put.2⟩ ⟨by decide, rfl⟩ (congrArg Prod.fst (sh_si (sh_si (sh_si (sh_si (F.1 59 (8, 4) rfl rfl)))))) rfl (by decide) rfl rfl ⟨by decide, by decide⟩ (jC.of rfl k_X8_put rfl ?_)
          show jX m_X8_put 98 0 0 0 [(0, .ref 59), (1, .int 0), (2, .int 3), (3, .int a3)] [] _ 0 0 _
          refine x_iloadn (x := 0) rfl rfl ?_
          refine x_iflt (tgt := 38) rfl rfl (br_f (by decide) ?_)
          refine x_iloadn (x := 0) rfl rfl ?_
          refine x_aloadn (x := 59) rfl rfl ?_
          refine y_getI (v := 1) 8 3 rfl f_8_7 rfl (congrArg Prod.fst (sh_si (sh_si (sh_si (sh_si (F.1 59 (8, 4) rfl rfl)))))) (iv_si rfl (iv_si rfl (iv_si rfl iv_eq))) ?_
          refine x_icge (tgt := 38) rfl rfl (br_f (by decide) ?_)
          refine x_iloadn (x := 3) rfl rfl ?_
          refine x_iflt (tgt := 38) rfl rfl (br_f (by decide) ?_)
          refine x_iloadn (x := 3) rfl rfl ?_
          refine x_aloadn (x := 59) rfl rfl ?_
          refine y_getI (v := 4) 8 0 rfl f_8_19 rfl (congrArg Prod.fst (sh_si (sh_si (sh_si (sh_si (F.1 59 (8, 4) rfl rfl)))))) (iv_si rfl (iv_si rfl (iv_si rfl (iv_si rfl (F.2.2.1 7552 4 rfl rfl))))) ?_
          refine x_icge (tgt := 38) rfl rfl (br_f (by decide) ?_)
          refine x_aloadn (x := 59) rfl rfl ?_
          refine x_getR (b := 60) 8 2 rfl f_8_25 rfl (congrArg Prod.fst (sh_si (sh_si (sh_si (sh_si (F.1 59 (8, 4) rfl rfl)))))) (rv_si (rv_si (rv_si (rv_si (F.2.1 7554 60 rfl rfl))))) ?_
          refine x_iloadn (x := 0) rfl rfl ?_
          refine x_aloadn (x := 59) rfl rfl ?_
          refine y_getI (v := 4) 8 0 rfl f_8_19 rfl (congrArg Prod.fst (sh_si (sh_si (sh_si (sh_si (F.1 59 (8, 4) rfl rfl)))))) (iv_si rfl (iv_si rfl (iv_si rfl (iv_si rfl (F.2.2.1 7552 4 rfl rfl))))) ?_
          refine y_imul (v := 0) rfl (by decide) ?_
          refine x_iloadn (x := 3) rfl rfl ?_
          refine y_iadd (v := 3) rfl (by decide) ?_
          refine x_iloadn (x := a3) rfl rfl ?_
          refine y_iast (N := 160) 3 rfl (sh_si (sh_si (sh_si (sh_si (F.1 60 (100, 160) rfl rfl))))) rfl (jinb_of (by decide)) (by decide) ?_
          refine x_vret rfl rfl ?_
          show jX m_X8_add 99 0 0 59 [(7, .int 0), (0, .ref 59), (1, .int a4), (2, .int a2), (3, .int a1), (4, .int a3), (5, .int 0), (6, .int 0)] [] _ 0 0 _
          refine x_aloadn (x := 59) rfl rfl ?_
          refine x_iload (x := 0) rfl rfl ?_
          refine x_iconst (v := 4) rfl ki_4 ?_
          refine x_iload (x := 0) rfl rfl ?_
          refine x_inv (N := m_X8_put) (As := [.int 0, .int 4, .int 0]) (b := 59) (st := []) (d' := 98) (mc := 0) (ms := 0) (host := "") 8 rfl t_X8_put ⟨Or.inl q_8_29, i_X8_put.1, i_X8_put.2⟩ ⟨by decide, rfl⟩ (congrArg Prod.fst (sh_si (sh_si (sh_si (sh_si (sh_si (F.1 59 (8, 4) rfl rfl))))))) rfl (by decide) rfl rfl ⟨by decide, by decide⟩ (jC.of rfl k_X8_put rfl ?_)
          show jX m_X8_put 98 0 0 0 [(0, .ref 59), (1, .int 0), (2, .int 4), (3, .int 0)] [] _ 0 0 _
          refine x_iloadn (x := 0) rfl rfl ?_
          refine x_iflt (tgt := 38) rfl rfl (br_f (by decide) ?_)
          refine x_iloadn (x := 0) rfl rfl ?_
          refine x_aloadn (x := 59) rfl rfl ?_
          refine y_getI (v := 1) 8 3 rfl f_8_7 rfl (congrArg Prod.fst (sh_si (sh_si (sh_si (sh_si (sh_si (F.1 59 (8, 4) rfl rfl))))))) (iv_si rfl (iv_si rfl (iv_si rfl (iv_si rfl iv_eq)))) ?_
          refine x_icge (tgt := 38) rfl rfl (br_f (by decide) ?_)
          refine x_iloadn (x := 4) rfl rfl ?_
          refine x_iflt (tgt := 38) rfl rfl (br_f (by decide) ?_)
          refine x_iloadn (x := 4) rfl rfl ?_
          refine x_aloadn (x := 59) rfl rfl ?_
          refine y_getI (v := 4) 8 0 rfl f_8_19 rfl (congrArg Prod.fst (sh_si (sh_si (sh_si (sh_si (sh_si (F.1 59 (8, 4) rfl rfl))))))) (iv_si rfl (iv_si rfl (iv_si rfl (iv_si rfl (iv_si rfl (F.2.2.1 7552 4 rfl rfl)))))) ?_
          refine x_icge (tgt := 38) rfl rfl (br_t (by decide) ?_)
          refine x_vret rfl rfl ?_
          show jX m_X8_add 99 0 0 68 [(7, .int 0), (0, .ref 59), (1, .int a4), (2, .int a2), (3, .int a1), (4, .int a3), (5, .int 0), (6, .int 0)] [] _ 0 0 _
          refine x_aloadn (x := 59) rfl rfl ?_
          refine x_iload (x := 0) rfl rfl ?_
          refine x_iconst (v := 5) rfl ki_5 ?_
          refine x_iload (x := 0) rfl rfl ?_
          refine x_inv (N := m_X8_put) (As := [.int 0, .int 5, .int 0]) (b := 59) (st := []) (d' := 98) (mc := 0) (ms := 0) (host := "") 8 rfl t_X8_put ⟨Or.inl q_8_29, i_X8_put.1, i_X8_put.2⟩ ⟨by decide, rfl⟩ (congrArg Prod.fst (sh_si (sh_si (sh_si (sh_si (sh_si (F.1 59 (8, 4) rfl rfl))))))) rfl (by decide) rfl rfl ⟨by decide, by decide⟩ (jC.of rfl k_X8_put rfl ?_)
          show jX m_X8_put 98 0 0 0 [(0, .ref 59), (1, .int 0), (2, .int 5), (3, .int 0)] [] _ 0 0 _
          refine x_iloadn (x := 0) rfl rfl ?_
          refine x_iflt (tgt := 38) rfl rfl (br_f (by decide) ?_)
          refine x_iloadn (x := 0) rfl rfl ?_
          refine x_aloadn (x := 59) rfl rfl ?_
          refine y_getI (v := 1) 8 3 rfl f_8_7 rfl (congrArg Prod.fst (sh_si (sh_si (sh_si (sh_si (sh_si (F.1 59 (8, 4) rfl rfl))))))) (iv_si rfl (iv_si rfl (iv_si rfl (iv_si rfl iv_eq)))) ?_
          refine x_icge (tgt := 38) rfl rfl (br_f (by decide) ?_)
          refine x_iloadn (x := 5) rfl rfl ?_
          refine x_iflt (tgt := 38) rfl rfl (br_f (by decide) ?_)
          refine x_iloadn (x := 5) rfl rfl ?_
          refine x_aloadn (x := 59) rfl rfl ?_
          refine y_getI (v := 4) 8 0 rfl f_8_19 rfl (congrArg Prod.fst (sh_si (sh_si (sh_si (sh_si (sh_si (F.1 59 (8, 4) rfl rfl))))))) (iv_si rfl (iv_si rfl (iv_si rfl (iv_si rfl (iv_si rfl (F.2.2.1 7552 4 rfl rfl)))))) ?_
          refine x_icge (tgt := 38) rfl rfl (br_t (by decide) ?_)
          refine x_vret rfl rfl ?_
          show jX m_X8_add 99 0 0 77 [(7, .int 0), (0, .ref 59), (1, .int a4), (2, .int a2), (3, .int a1), (4, .int a3), (5, .int 0), (6, .int 0)] [] _ 0 0 _
          refine x_vret rfl rfl ?_
          show jX m_X11_close 100 0 0 105 [(5, .int (-1)), (0, .ref 31), (1, .int a1), (2, .int a2), (3, .int a3), (4, .int a4)] [] _ 0 0 _
          refine x_aloadn (x := 31) rfl rfl ?_
          refine x_iconst (v := 0) rfl ki_0 ?_
          refine x_inv (N := m_X11_accept) (As := [.int 0]) (b := 31) (st := []) (d' := 99) (mc := 0) (ms := 0) (host := "") 11 rfl t_X11_accept ⟨Or.inl q_11_165, i_X11_accept.1, i_X11_accept.2⟩ ⟨by decide, rfl⟩ (congrArg Prod.fst (sh_si (sh_si (sh_si (sh_si (sh_si (F.1 31 (11, 13) rfl rfl))))))) rfl (by decide) rfl rfl ⟨by decide, by decide⟩ (jC.of rfl k_X11_accept rfl ?_)
          show jX m_X11_accept 99 0 0 0 [(0, .ref 31), (1, .int 0)] [] _ 0 0 _
          refine x_aloadn (x := 31) rfl rfl ?_
          refine x_iconst (v := 0) rfl ki_0 ?_
          refine x_putI 11 12 rfl f_11_94 rfl (jfin_no TX11 RX11 13 rfl rfl) (congrArg Prod.fst (sh_si (sh_si (sh_si (sh_si (sh_si (F.1 31 (11, 13) rfl rfl))))))) rfl ?_
          refine x_aloadn (x := 31) rfl rfl ?_
          refine x_getR (b := 32) 11 0 rfl f_11_10 rfl (congrArg Prod.fst (sh_si (sh_si (sh_si (sh_si (sh_si (sh_si (F.1 31 (11, 13) rfl rfl)))))))) (rv_si (rv_si (rv_si (rv_si (rv_si (rv_si (F.2.1 3968 32 rfl rfl))))))) ?_
          refine x_dup rfl rfl ?_
          refine y_getI (v := 1) 1 19 rfl f_11_528 rfl (congrArg Prod.fst (sh_si (sh_si (sh_si (sh_si (sh_si (sh_si (F.1 32 (1, 20) rfl rfl)))))))) (iv_si rfl (iv_si rfl (iv_si rfl (iv_si rfl (iv_si rfl (iv_si rfl (F.2.2.1 4115 1 rfl rfl))))))) ?_
          refine x_iconst (v := 1) rfl ki_1 ?_
          refine y_iadd (v := 2) rfl (by decide) ?_
          refine x_putI 1 19 rfl f_11_528 rfl (jfin_no TX1 RX1 20 rfl rfl) (congrArg Prod.fst (sh_si (sh_si (sh_si (sh_si (sh_si (sh_si (F.1 32 (1, 20) rfl rfl)))))))) rfl ?_
          refine x_iloadn (x := 0) rfl rfl ?_
          refine x_iret rfl rfl ?_
          show jX m_X11_close 100 0 0 110 [(5, .int (-1)), (0, .ref 31), (1, .int a1), (2, .int a2), (3, .int a3), (4, .int a4)] [.int 0] _ 0 0 _
          refine x_iret rfl rfl ?_
          exact jqe (show sp_close a1 a2 a3 a4 = 0 by unfold sp_close; (repeat' split) <;> first | rfl | (exfalso; omega)) (hQ _ (jFb_si rfl (jFb_si rfl (jFb_si rfl (jFb_si rfl (jFb_si rfl (jFb_si rfl (jFb_si rfl FM))))))) (jOl_si rfl (jOl_si rfl (jOl_si rfl (jOl_si rfl (jOl_si rfl (jOl_si rfl (jOl_si rfl O))))))))
        ·
          refine x_aloadn (x := 31) rfl rfl ?_
          refine x_bipush (v := (-3)) rfl kb_m3 ?_
          refine x_inv (N := m_X11_refuse) (As := [.int (-3)]) (b := 31) (st := []) (d' := 99) (mc := 0) (ms := 0) (host := "") 11 rfl t_X11_refuse ⟨Or.inl q_11_206, i_X11_refuse.1, i_X11_refuse.2⟩ ⟨by decide, rfl⟩ (congrArg Prod.fst (F.1 31 (11, 13) rfl rfl)) rfl (by decide) rfl rfl ⟨by decide, by decide⟩ (jC.of rfl k_X11_refuse rfl ?_)
          show jX m_X11_refuse 99 0 0 0 [(0, .ref 31), (1, .int (-3))] [] _ 0 0 _
          refine x_aloadn (x := 31) rfl rfl ?_
          refine x_iloadn (x := (-3)) rfl rfl ?_
          refine x_putI 11 12 rfl f_11_94 rfl (jfin_no TX11 RX11 13 rfl rfl) (congrArg Prod.fst (F.1 31 (11, 13) rfl rfl)) rfl ?_
          refine x_iloadn (x := (-3)) rfl rfl ?_
          refine x_iret rfl rfl ?_
          show jX m_X11_close 100 0 0 67 [(5, .int (-1)), (0, .ref 31), (1, .int a1), (2, .int a2), (3, .int a3), (4, .int a4)] [.int (-3)] _ 0 0 _
          refine x_iret rfl rfl ?_
          exact jqe (show sp_close a1 a2 a3 a4 = (-3) by unfold sp_close; (repeat' split) <;> first | rfl | (exfalso; omega)) (hQ _ (jFb_si rfl FM) (jOl_si rfl O))
      ·
        refine x_aloadn (x := 31) rfl rfl ?_
        refine x_iconst (v := (-1)) rfl ki_m1 ?_
        refine x_inv (N := m_X11_refuse) (As := [.int (-1)]) (b := 31) (st := []) (d' := 99) (mc := 0) (ms := 0) (host := "") 11 rfl t_X11_refuse ⟨Or.inl q_11_206, i_X11_refuse.1, i_X11_refuse.2⟩ ⟨by decide, rfl⟩ (congrArg Prod.fst (F.1 31 (11, 13) rfl rfl)) rfl (by decide) rfl rfl ⟨by decide, by decide⟩ (jC.of rfl k_X11_refuse rfl ?_)
        show jX m_X11_refuse 99 0 0 0 [(0, .ref 31), (1, .int (-1))] [] _ 0 0 _
        refine x_aloadn (x := 31) rfl rfl ?_
        refine x_iloadn (x := (-1)) rfl rfl ?_
        refine x_putI 11 12 rfl f_11_94 rfl (jfin_no TX11 RX11 13 rfl rfl) (congrArg Prod.fst (F.1 31 (11, 13) rfl rfl)) rfl ?_
        refine x_iloadn (x := (-1)) rfl rfl ?_
        refine x_iret rfl rfl ?_
        show jX m_X11_close 100 0 0 27 [(0, .ref 31), (1, .int a1), (2, .int a2), (3, .int a3), (4, .int a4)] [.int (-1)] _ 0 0 _
        refine x_iret rfl rfl ?_
        exact jqe (show sp_close a1 a2 a3 a4 = (-1) by unfold sp_close; (repeat' split) <;> first | rfl | (exfalso; omega)) (hQ _ (jFb_si rfl FM) (jOl_si rfl O))
set_option maxRecDepth 100000 in
set_option maxHeartbeats 40000000 in
theorem pm_close (a1 a2 a3 a4 : Int32) {xs : Nat → Int32} {h : jH} {Q : Option Value → jH → Prop} (F : jFb 125 h) (O : jOl 7 xs h) (hQ : ∀ h', jOl 7 xs h' → Q (some (.int (sp_close a1 a2 a3 a4))) h') : jC m_X12_close_ 100 0 0 [.ref 125, .int a1, .int a2, .int a3, .int a4] h Q := by
  refine jC.of rfl k_X12_close_ rfl ?_
  show jX m_X12_close_ 100 0 0 0 [(0, .ref 125), (1, .int a1), (2, .int a2), (3, .int a3), (4, .int a4)] [] _ 0 0 _
  refine x_aloadn (x := 125) rfl rfl ?_
  refine x_iconst (v := 0) rfl ki_0 ?_
  refine x_putI 12 0 rfl f_12_180 rfl (jfin_no TX12 RX12 92 rfl rfl) (congrArg Prod.fst (F.1 125 (12, 92) rfl rfl)) rfl ?_
  refine x_iloadn (x := a1) rfl rfl ?_
  refine x_i2l rfl ?_
  refine x_lconst (v := 0) rfl kl_0 ?_
  refine x_ldc2 (v := 3) rfl z_12_195 ?_
  refine x_inst (N := m_X12_in) (As := [.long (a1.toInt64), .long 0, .long 3]) (st := []) (d' := 99) (mc := 0) (ms := 0) (host := "") rfl t_X12_in ⟨Or.inl q_12_188, s_X12_in⟩ rfl (by decide) rfl rfl ⟨by decide, by decide⟩ (c_X12_in (m := a1.toInt) (a := 0) (b := 3) (jt_l _) (by decide) (by decide) ?_)
  show jX m_X12_close_ 100 0 0 14 [(0, .ref 125), (1, .int a1), (2, .int a2), (3, .int a3), (4, .int a4)] [.int (jp (0 ≤ a1.toInt ∧ a1.toInt ≤ 3))] _ 0 0 _
  refine x_ifeq (tgt := 32) rfl rfl (jpe ⟨fun c1 => ?_, fun c1 => ?_⟩)
  ·
    refine x_aloadn (x := 125) rfl rfl ?_
    refine x_iconst (v := (-1)) rfl ki_m1 ?_
    refine x_inv (N := m_X12_told) (As := [.int (-1)]) (b := 125) (st := []) (d' := 99) (mc := 0) (ms := 0) (host := "") 12 rfl t_X12_told ⟨Or.inl q_12_197, i_X12_told.1, i_X12_told.2⟩ ⟨by decide, rfl⟩ (congrArg Prod.fst (sh_si (F.1 125 (12, 92) rfl rfl))) rfl (by decide) rfl rfl ⟨by decide, by decide⟩ (jC.of rfl k_X12_told rfl ?_)
    show jX m_X12_told 99 0 0 0 [(0, .ref 125), (1, .int (-1))] [] _ 0 0 _
    refine x_aloadn (x := 125) rfl rfl ?_
    refine x_iloadn (x := (-1)) rfl rfl ?_
    refine x_ifge (tgt := 9) rfl rfl (br_f (by decide) ?_)
    refine x_iloadn (x := (-1)) rfl rfl ?_
    refine x_goto (tgt := 10) rfl rfl ?_
    refine x_putI 12 1 rfl f_12_183 rfl (jfin_no TX12 RX12 92 rfl rfl) (congrArg Prod.fst (sh_si (F.1 125 (12, 92) rfl rfl))) rfl ?_
    refine x_iloadn (x := (-1)) rfl rfl ?_
    refine x_iret rfl rfl ?_
    show jX m_X12_close_ 100 0 0 37 [(0, .ref 125), (1, .int a1), (2, .int a2), (3, .int a3), (4, .int a4)] [.int (-1)] _ 0 0 _
    refine x_iret rfl rfl ?_
    exact jqe (show sp_close a1 a2 a3 a4 = (-1) by unfold sp_close; (repeat' split) <;> first | rfl | (exfalso; omega)) (hQ _ (jOl_si rfl (jOl_si rfl O)))
  ·
    refine x_iloadn (x := a2) rfl rfl ?_
    refine x_inst (N := m_X12_isYear) (As := [.int a2]) (st := []) (d' := 99) (mc := 0) (ms := 0) (host := "") rfl t_X12_isYear ⟨Or.inl q_12_817, s_X12_isYear⟩ rfl (by decide) rfl rfl ⟨by decide, by decide⟩ (c_X12_isYear (x := a2) ?_)
    show jX m_X12_close_ 100 0 0 21 [(0, .ref 125), (1, .int a1), (2, .int a2), (3, .int a3), (4, .int a4)] [.int (jp (0 ≤ a2.toInt ∧ a2.toInt ≤ 399))] _ 0 0 _
    refine x_ifeq (tgt := 32) rfl rfl (jpe ⟨fun c2 => ?_, fun c2 => ?_⟩)
    ·
      refine x_aloadn (x := 125) rfl rfl ?_
      refine x_iconst (v := (-1)) rfl ki_m1 ?_
      refine x_inv (N := m_X12_told) (As := [.int (-1)]) (b := 125) (st := []) (d' := 99) (mc := 0) (ms := 0) (host := "") 12 rfl t_X12_told ⟨Or.inl q_12_197, i_X12_told.1, i_X12_told.2⟩ ⟨by decide, rfl⟩ (congrArg Prod.fst (sh_si (F.1 125 (12, 92) rfl rfl))) rfl (by decide) rfl rfl ⟨by decide, by decide⟩ (jC.of rfl k_X12_told rfl ?_)
      show jX m_X12_told 99 0 0 0 [(0, .ref 125), (1, .int (-1))] [] _ 0 0 _
      refine x_aloadn (x := 125) rfl rfl ?_
      refine x_iloadn (x := (-1)) rfl rfl ?_
      refine x_ifge (tgt := 9) rfl rfl (br_f (by decide) ?_)
      refine x_iloadn (x := (-1)) rfl rfl ?_
      refine x_goto (tgt := 10) rfl rfl ?_
      refine x_putI 12 1 rfl f_12_183 rfl (jfin_no TX12 RX12 92 rfl rfl) (congrArg Prod.fst (sh_si (F.1 125 (12, 92) rfl rfl))) rfl ?_
      refine x_iloadn (x := (-1)) rfl rfl ?_
      refine x_iret rfl rfl ?_
      show jX m_X12_close_ 100 0 0 37 [(0, .ref 125), (1, .int a1), (2, .int a2), (3, .int a3), (4, .int a4)] [.int (-1)] _ 0 0 _
      refine x_iret rfl rfl ?_
      exact jqe (show sp_close a1 a2 a3 a4 = (-1) by unfold sp_close; (repeat' split) <;> first | rfl | (exfalso; omega)) (hQ _ (jOl_si rfl (jOl_si rfl O)))
    ·
      refine x_iload (x := a4) rfl rfl ?_
      refine x_inst (N := m_X12_isDay) (As := [.int a4]) (st := []) (d' := 99) (mc := 0) (ms := 0) (host := "") rfl t_X12_isDay ⟨Or.inl q_12_273, s_X12_isDay⟩ rfl (by decide) rfl rfl ⟨by decide, by decide⟩ (c_X12_isDay (x := a4) ?_)
      show jX m_X12_close_ 100 0 0 29 [(0, .ref 125), (1, .int a1), (2, .int a2), (3, .int a3), (4, .int a4)] [.int (jp (0 ≤ a4.toInt ∧ a4.toInt ≤ 146399))] _ 0 0 _
      refine x_ifne (tgt := 38) rfl rfl (jpn ⟨fun c3 => ?_, fun c3 => ?_⟩)
      ·
        refine x_iconst (v := (-1)) rfl ki_m1 ?_
        refine x_istore (ls' := [(5, .int (-1)), (0, .ref 125), (1, .int a1), (2, .int a2), (3, .int a3), (4, .int a4)]) rfl rfl rfl ?_
        refine x_iconst (v := 0) rfl ki_0 ?_
        refine x_istore (ls' := [(6, .int 0), (5, .int (-1)), (0, .ref 125), (1, .int a1), (2, .int a2), (3, .int a3), (4, .int a4)]) rfl rfl rfl ?_
        refine x_iload (x := 0) rfl rfl ?_
        refine x_aloadn (x := 125) rfl rfl ?_
        refine x_getR (b := 126) 12 2 rfl f_12_8 rfl (congrArg Prod.fst (sh_si (F.1 125 (12, 92) rfl rfl))) (rv_si (F.2.1 16002 126 rfl rfl)) ?_
        refine x_bipush (v := 14) rfl kb_14 ?_
        refine y_iald (v := 0) (N := 50660) 14 rfl (sh_si (F.1 126 (100, 50660) rfl rfl)) (jinb_of (by decide)) (by decide) (iv_si rfl (F.2.2.2.1 126 rfl rfl 14).1) ?_
        refine x_icge (tgt := 101) rfl rfl (br_t (by decide) ?_)
        refine x_iload (x := (-1)) rfl rfl ?_
        refine x_iconst (v := (-1)) rfl ki_m1 ?_
        refine x_iceq (tgt := 115) rfl rfl (br_t (by decide) ?_)
        refine x_iloadn (x := a3) rfl rfl ?_
        refine x_aloadn (x := 125) rfl rfl ?_
        refine x_iloadn (x := a1) rfl rfl ?_
        refine x_iloadn (x := a2) rfl rfl ?_
        refine x_iload (x := a4) rfl rfl ?_
        refine x_inv (N := m_X12_balanceOf) (As := [.int a1, .int a2, .int a4]) (b := 125) (st := [.int a3]) (d' := 99) (mc := 0) (ms := 0) (host := "") 12 rfl t_X12_balanceOf ⟨Or.inl q_12_848, i_X12_balanceOf.1, i_X12_balanceOf.2⟩ ⟨by decide, rfl⟩ (congrArg Prod.fst (sh_si (F.1 125 (12, 92) rfl rfl))) rfl (by decide) rfl rfl ⟨by decide, by decide⟩ (jC.of rfl k_X12_balanceOf rfl ?_)
        show jX m_X12_balanceOf 99 0 0 0 [(0, .ref 125), (1, .int a1), (2, .int a2), (3, .int a4)] [] _ 0 0 _
        refine x_aloadn (x := 125) rfl rfl ?_
        refine x_iloadn (x := a1) rfl rfl ?_
        refine x_iloadn (x := a2) rfl rfl ?_
        refine x_iconst (v := 1) rfl ki_1 ?_
        refine x_isub rfl ?_
        have c4 := jsubf (x := a2) (y := 1) (show (a2 : Int32).toInt = a2.toInt from rfl) (show (1 : Int32).toInt = 1 by decide) (by omega)
        refine x_inv (N := m_X12_closedAt) (As := [.int a1, .int (a2 - 1)]) (b := 125) (st := []) (d' := 98) (mc := 0) (ms := 0) (host := "") 12 rfl t_X12_closedAt ⟨Or.inl q_12_845, i_X12_closedAt.1, i_X12_closedAt.2⟩ ⟨by decide, rfl⟩ (congrArg Prod.fst (sh_si (F.1 125 (12, 92) rfl rfl))) rfl (by decide) rfl rfl ⟨by decide, by decide⟩ (jC.of rfl k_X12_closedAt rfl ?_)
        show jX m_X12_closedAt 98 0 0 0 [(0, .ref 125), (1, .int a1), (2, .int (a2 - 1))] [] _ 0 0 _
        refine x_iconst (v := (-1)) rfl ki_m1 ?_
        refine x_istoren (ls' := [(3, .int (-1)), (0, .ref 125), (1, .int a1), (2, .int (a2 - 1))]) rfl rfl rfl ?_
        refine x_iconst (v := 0) rfl ki_0 ?_
        refine x_istore (ls' := [(4, .int 0), (3, .int (-1)), (0, .ref 125), (1, .int a1), (2, .int (a2 - 1))]) rfl rfl rfl ?_
        refine x_iload (x := 0) rfl rfl ?_
        refine x_aloadn (x := 125) rfl rfl ?_
        refine x_getR (b := 126) 12 2 rfl f_12_8 rfl (congrArg Prod.fst (sh_si (F.1 125 (12, 92) rfl rfl))) (rv_si (F.2.1 16002 126 rfl rfl)) ?_
        refine x_bipush (v := 14) rfl kb_14 ?_
        refine y_iald (v := 0) (N := 50660) 14 rfl (sh_si (F.1 126 (100, 50660) rfl rfl)) (jinb_of (by decide)) (by decide) (iv_si rfl (F.2.2.2.1 126 rfl rfl 14).1) ?_
        refine x_icge (tgt := 64) rfl rfl (br_t (by decide) ?_)
        refine x_iloadn (x := (-1)) rfl rfl ?_
        refine x_iret rfl rfl ?_
        show jX m_X12_balanceOf 99 0 0 8 [(0, .ref 125), (1, .int a1), (2, .int a2), (3, .int a4)] [.int (-1)] _ 0 0 _
        refine x_istore (ls' := [(4, .int (-1)), (0, .ref 125), (1, .int a1), (2, .int a2), (3, .int a4)]) rfl rfl rfl ?_
        refine x_iload (x := (-1)) rfl rfl ?_
        refine x_iconst (v := (-1)) rfl ki_m1 ?_
        refine x_iceq (tgt := 41) rfl rfl (br_t (by decide) ?_)
        refine x_iconst (v := 0) rfl ki_0 ?_
        refine x_istore (ls' := [(5, .int 0), (4, .int (-1)), (0, .ref 125), (1, .int a1), (2, .int a2), (3, .int a4)]) rfl rfl rfl ?_
        refine x_iconst (v := 0) rfl ki_0 ?_
        refine x_istore (ls' := [(6, .int 0), (5, .int 0), (4, .int (-1)), (0, .ref 125), (1, .int a1), (2, .int a2), (3, .int a4)]) rfl rfl rfl ?_
        refine x_iload (x := 0) rfl rfl ?_
        refine x_aloadn (x := 125) rfl rfl ?_
        refine x_getR (b := 126) 12 2 rfl f_12_8 rfl (congrArg Prod.fst (sh_si (F.1 125 (12, 92) rfl rfl))) (rv_si (F.2.1 16002 126 rfl rfl)) ?_
        refine x_bipush (v := 13) rfl kb_13 ?_
        refine y_iald (v := 0) (N := 50660) 13 rfl (sh_si (F.1 126 (100, 50660) rfl rfl)) (jinb_of (by decide)) (by decide) (iv_si rfl (F.2.2.2.1 126 rfl rfl 13).1) ?_
        refine x_icge (tgt := 177) rfl rfl (br_t (by decide) ?_)
        refine x_iload (x := 0) rfl rfl ?_
        refine x_iret rfl rfl ?_
        show jX m_X12_close_ 100 0 0 124 [(6, .int 0), (5, .int (-1)), (0, .ref 125), (1, .int a1), (2, .int a2), (3, .int a3), (4, .int a4)] [.int 0, .int a3] _ 0 0 _
        refine x_iceq (tgt := 134) rfl rfl (ti_eq (show (a3 : Int32).toInt = a3.toInt from rfl) (show (0 : Int32).toInt = 0 by decide) ⟨fun c5 => ?_, fun c5 => ?_⟩)
        ·
          refine x_aloadn (x := 125) rfl rfl ?_
          refine x_getR (b := 126) 12 2 rfl f_12_8 rfl (congrArg Prod.fst (sh_si (F.1 125 (12, 92) rfl rfl))) (rv_si (F.2.1 16002 126 rfl rfl)) ?_
          refine x_bipush (v := 14) rfl kb_14 ?_
          refine y_iald (v := 0) (N := 50660) 14 rfl (sh_si (F.1 126 (100, 50660) rfl rfl)) (jinb_of (by decide)) (by decide) (iv_si rfl (F.2.2.2.1 126 rfl rfl 14).1) ?_
          refine x_bipush (v := 40) rfl kb_40 ?_
          refine x_icne (tgt := 153) rfl rfl (bn_t (by decide) ?_)
          refine x_aloadn (x := 125) rfl rfl ?_
          refine x_ldcw (v := 49360) rfl z_12_844 ?_
          refine x_iconst (v := 4) rfl ki_4 ?_
          refine x_aloadn (x := 125) rfl rfl ?_
          refine x_getR (b := 126) 12 2 rfl f_12_8 rfl (congrArg Prod.fst (sh_si (F.1 125 (12, 92) rfl rfl))) (rv_si (F.2.1 16002 126 rfl rfl)) ?_
          refine x_bipush (v := 14) rfl kb_14 ?_
          refine y_iald (v := 0) (N := 50660) 14 rfl (sh_si (F.1 126 (100, 50660) rfl rfl)) (jinb_of (by decide)) (by decide) (iv_si rfl (F.2.2.2.1 126 rfl rfl 14).1) ?_
          refine y_imul (v := 0) rfl (by decide) ?_
          refine y_iadd (v := 49360) rfl (by decide) ?_
          refine x_iloadn (x := a1) rfl rfl ?_
          refine x_iloadn (x := a2) rfl rfl ?_
          refine x_iloadn (x := a3) rfl rfl ?_
          refine x_iload (x := a4) rfl rfl ?_
          refine x_inv (N := m_X12_addFour) (As := [.int 49360, .int a1, .int a2, .int a3, .int a4]) (b := 125) (st := []) (d' := 99) (mc := 0) (ms := 0) (host := "") 12 rfl t_X12_addFour ⟨Or.inl q_12_814, i_X12_addFour.1, i_X12_addFour.2⟩ ⟨by decide, rfl⟩ (congrArg Prod.fst (sh_si (F.1 125 (12, 92) rfl rfl))) rfl (by decide) rfl rfl ⟨by decide, by decide⟩ (jC.of rfl k_X12_addFour rfl ?_)
          show jX m_X12_addFour 99 0 0 0 [(0, .ref 125), (1, .int 49360), (2, .int a1), (3, .int a2), (4, .int a3), (5, .int a4)] [] _ 0 0 _
          refine x_aloadn (x := 125) rfl rfl ?_
          refine x_getR (b := 126) 12 2 rfl f_12_8 rfl (congrArg Prod.fst (sh_si (F.1 125 (12, 92) rfl rfl))) (rv_si (F.2.1 16002 126 rfl rfl)) ?_
          refine x_iloadn (x := 49360) rfl rfl ?_
          refine x_iloadn (x := a1) rfl rfl ?_
          refine y_iast (N := 50660) 49360 rfl (sh_si (F.1 126 (100, 50660) rfl rfl)) rfl (jinb_of (by decide)) (by decide) ?_
          refine x_aloadn (x := 125) rfl rfl ?_
          refine x_getR (b := 126) 12 2 rfl f_12_8 rfl (congrArg Prod.fst (sh_si (sh_si (F.1 125 (12, 92) rfl rfl)))) (rv_si (rv_si (F.2.1 16002 126 rfl rfl))) ?_
          refine x_iloadn (x := 49360) rfl rfl ?_
          refine x_iconst (v := 1) rfl ki_1 ?_
          refine y_iadd (v := 49361) rfl (by decide) ?_
          refine x_iloadn (x := a2) rfl rfl ?_
          refine y_iast (N := 50660) 49361 rfl (sh_si (sh_si (F.1 126 (100, 50660) rfl rfl))) rfl (jinb_of (by decide)) (by decide) ?_
          refine x_aloadn (x := 125) rfl rfl ?_
          refine x_getR (b := 126) 12 2 rfl f_12_8 rfl (congrArg Prod.fst (sh_si (sh_si (sh_si (F.1 125 (12, 92) rfl rfl))))) (rv_si (rv_si (rv_si (F.2.1 16002 126 rfl rfl)))) ?_
          refine x_iloadn (x := 49360) rfl rfl ?_
          refine x_iconst (v := 2) rfl ki_2 ?_
          refine y_iadd (v := 49362) rfl (by decide) ?_
          refine x_iload (x := a3) rfl rfl ?_
          refine y_iast (N := 50660) 49362 rfl (sh_si (sh_si (sh_si (F.1 126 (100, 50660) rfl rfl)))) rfl (jinb_of (by decide)) (by decide) ?_
          refine x_aloadn (x := 125) rfl rfl ?_
          refine x_getR (b := 126) 12 2 rfl f_12_8 rfl (congrArg Prod.fst (sh_si (sh_si (sh_si (sh_si (F.1 125 (12, 92) rfl rfl)))))) (rv_si (rv_si (rv_si (rv_si (F.2.1 16002 126 rfl rfl))))) ?_
          refine x_iloadn (x := 49360) rfl rfl ?_
          refine x_iconst (v := 3) rfl ki_3 ?_
          refine y_iadd (v := 49363) rfl (by decide) ?_
          refine x_iload (x := a4) rfl rfl ?_
          refine y_iast (N := 50660) 49363 rfl (sh_si (sh_si (sh_si (sh_si (F.1 126 (100, 50660) rfl rfl))))) rfl (jinb_of (by decide)) (by decide) ?_
          refine x_vret rfl rfl ?_
          show jX m_X12_close_ 100 0 0 175 [(6, .int 0), (5, .int (-1)), (0, .ref 125), (1, .int a1), (2, .int a2), (3, .int a3), (4, .int a4)] [] _ 0 0 _
          refine x_aloadn (x := 125) rfl rfl ?_
          refine x_getR (b := 126) 12 2 rfl f_12_8 rfl (congrArg Prod.fst (sh_si (sh_si (sh_si (sh_si (sh_si (F.1 125 (12, 92) rfl rfl))))))) (rv_si (rv_si (rv_si (rv_si (rv_si (F.2.1 16002 126 rfl rfl)))))) ?_
          refine x_bipush (v := 14) rfl kb_14 ?_
          refine x_dup2 rfl rfl rfl ?_
          refine y_iald (v := 0) (N := 50660) 14 rfl (sh_si (sh_si (sh_si (sh_si (sh_si (F.1 126 (100, 50660) rfl rfl)))))) (jinb_of (by decide)) (by decide) (iv_si rfl (iv_si rfl (iv_si rfl (iv_si rfl (iv_si rfl (F.2.2.2.1 126 rfl rfl 14).1))))) ?_
          refine x_iconst (v := 1) rfl ki_1 ?_
          refine y_iadd (v := 1) rfl (by decide) ?_
          refine y_iast (N := 50660) 14 rfl (sh_si (sh_si (sh_si (sh_si (sh_si (F.1 126 (100, 50660) rfl rfl)))))) rfl (jinb_of (by decide)) (by decide) ?_
          refine x_aloadn (x := 125) rfl rfl ?_
          refine x_iconst (v := 0) rfl ki_0 ?_
          refine x_inv (N := m_X12_told) (As := [.int 0]) (b := 125) (st := []) (d' := 99) (mc := 0) (ms := 0) (host := "") 12 rfl t_X12_told ⟨Or.inl q_12_197, i_X12_told.1, i_X12_told.2⟩ ⟨by decide, rfl⟩ (congrArg Prod.fst (sh_si (sh_si (sh_si (sh_si (sh_si (sh_si (F.1 125 (12, 92) rfl rfl)))))))) rfl (by decide) rfl rfl ⟨by decide, by decide⟩ (jC.of rfl k_X12_told rfl ?_)
          show jX m_X12_told 99 0 0 0 [(0, .ref 125), (1, .int 0)] [] _ 0 0 _
          refine x_aloadn (x := 125) rfl rfl ?_
          refine x_iloadn (x := 0) rfl rfl ?_
          refine x_ifge (tgt := 9) rfl rfl (br_t (by decide) ?_)
          refine x_iconst (v := 0) rfl ki_0 ?_
          refine x_putI 12 1 rfl f_12_183 rfl (jfin_no TX12 RX12 92 rfl rfl) (congrArg Prod.fst (sh_si (sh_si (sh_si (sh_si (sh_si (sh_si (F.1 125 (12, 92) rfl rfl)))))))) rfl ?_
          refine x_iloadn (x := 0) rfl rfl ?_
          refine x_iret rfl rfl ?_
          show jX m_X12_close_ 100 0 0 191 [(6, .int 0), (5, .int (-1)), (0, .ref 125), (1, .int a1), (2, .int a2), (3, .int a3), (4, .int a4)] [.int 0] _ 0 0 _
          refine x_iret rfl rfl ?_
          exact jqe (show sp_close a1 a2 a3 a4 = 0 by unfold sp_close; (repeat' split) <;> first | rfl | (exfalso; omega)) (hQ _ (jOl_si rfl (jOl_si rfl (jOl_si rfl (jOl_si rfl (jOl_si rfl (jOl_si rfl (jOl_si rfl O))))))))
        ·
          refine x_aloadn (x := 125) rfl rfl ?_
          refine x_bipush (v := (-3)) rfl kb_m3 ?_
          refine x_inv (N := m_X12_told) (As := [.int (-3)]) (b := 125) (st := []) (d' := 99) (mc := 0) (ms := 0) (host := "") 12 rfl t_X12_told ⟨Or.inl q_12_197, i_X12_told.1, i_X12_told.2⟩ ⟨by decide, rfl⟩ (congrArg Prod.fst (sh_si (F.1 125 (12, 92) rfl rfl))) rfl (by decide) rfl rfl ⟨by decide, by decide⟩ (jC.of rfl k_X12_told rfl ?_)
          show jX m_X12_told 99 0 0 0 [(0, .ref 125), (1, .int (-3))] [] _ 0 0 _
          refine x_aloadn (x := 125) rfl rfl ?_
          refine x_iloadn (x := (-3)) rfl rfl ?_
          refine x_ifge (tgt := 9) rfl rfl (br_f (by decide) ?_)
          refine x_iloadn (x := (-3)) rfl rfl ?_
          refine x_goto (tgt := 10) rfl rfl ?_
          refine x_putI 12 1 rfl f_12_183 rfl (jfin_no TX12 RX12 92 rfl rfl) (congrArg Prod.fst (sh_si (F.1 125 (12, 92) rfl rfl))) rfl ?_
          refine x_iloadn (x := (-3)) rfl rfl ?_
          refine x_iret rfl rfl ?_
          show jX m_X12_close_ 100 0 0 133 [(6, .int 0), (5, .int (-1)), (0, .ref 125), (1, .int a1), (2, .int a2), (3, .int a3), (4, .int a4)] [.int (-3)] _ 0 0 _
          refine x_iret rfl rfl ?_
          exact jqe (show sp_close a1 a2 a3 a4 = (-3) by unfold sp_close; (repeat' split) <;> first | rfl | (exfalso; omega)) (hQ _ (jOl_si rfl (jOl_si rfl O)))
      ·
        refine x_aloadn (x := 125) rfl rfl ?_
        refine x_iconst (v := (-1)) rfl ki_m1 ?_
        refine x_inv (N := m_X12_told) (As := [.int (-1)]) (b := 125) (st := []) (d' := 99) (mc := 0) (ms := 0) (host := "") 12 rfl t_X12_told ⟨Or.inl q_12_197, i_X12_told.1, i_X12_told.2⟩ ⟨by decide, rfl⟩ (congrArg Prod.fst (sh_si (F.1 125 (12, 92) rfl rfl))) rfl (by decide) rfl rfl ⟨by decide, by decide⟩ (jC.of rfl k_X12_told rfl ?_)
        show jX m_X12_told 99 0 0 0 [(0, .ref 125), (1, .int (-1))] [] _ 0 0 _
        refine x_aloadn (x := 125) rfl rfl ?_
        refine x_iloadn (x := (-1)) rfl rfl ?_
        refine x_ifge (tgt := 9) rfl rfl (br_f (by decide) ?_)
        refine x_iloadn (x := (-1)) rfl rfl ?_
        refine x_goto (tgt := 10) rfl rfl ?_
        refine x_putI 12 1 rfl f_12_183 rfl (jfin_no TX12 RX12 92 rfl rfl) (congrArg Prod.fst (sh_si (F.1 125 (12, 92) rfl rfl))) rfl ?_
        refine x_iloadn (x := (-1)) rfl rfl ?_
        refine x_iret rfl rfl ?_
        show jX m_X12_close_ 100 0 0 37 [(0, .ref 125), (1, .int a1), (2, .int a2), (3, .int a3), (4, .int a4)] [.int (-1)] _ 0 0 _
        refine x_iret rfl rfl ?_
        exact jqe (show sp_close a1 a2 a3 a4 = (-1) by unfold sp_close; (repeat' split) <;> first | rfl | (exfalso; omega)) (hQ _ (jOl_si rfl (jOl_si rfl O)))
def sp_balance (a1 a2 a3 : Int32) : Int32 := if (0 ≤ a1.toInt ∧ a1.toInt ≤ 3) ∧ (0 ≤ a2.toInt ∧ a2.toInt ≤ 399) ∧ (0 ≤ a3.toInt ∧ a3.toInt ≤ 146399) then 0 else (-2000000000)
set_option maxRecDepth 100000 in
set_option maxHeartbeats 40000000 in
theorem px_balance (a1 a2 a3 : Int32) {xs : Nat → Int32} {h : jH} {Q : Option Value → jH → Prop} (F : jFb 31 h) (O : jOl 7 xs h) (hQ : ∀ h', jFb 125 h' → jOl 7 xs h' → Q (some (.int (sp_balance a1 a2 a3))) h') : jC m_X11_balance 100 0 0 [.ref 31, .int a1, .int a2, .int a3] h Q := by
  have FM := jFb_up 125 rfl F
  refine jC.of rfl k_X11_balance rfl ?_
  show jX m_X11_balance 100 0 0 0 [(0, .ref 31), (1, .int a1), (2, .int a2), (3, .int a3)] [] _ 0 0 _
  refine x_iloadn (x := a1) rfl rfl ?_
  refine x_inst (N := m_X11_isOffice) (As := [.int a1]) (st := []) (d' := 99) (mc := 0) (ms := 0) (host := "") rfl t_X11_isOffice ⟨Or.inl q_11_456, s_X11_isOffice⟩ rfl (by decide) rfl rfl ⟨by decide, by decide⟩ (c_X11_isOffice (x := a1) ?_)
  show jX m_X11_balance 100 0 0 4 [(0, .ref 31), (1, .int a1), (2, .int a2), (3, .int a3)] [.int (jp (0 ≤ a1.toInt ∧ a1.toInt ≤ 3))] _ 0 0 _
  refine x_ifeq (tgt := 21) rfl rfl (jpe ⟨fun c1 => ?_, fun c1 => ?_⟩)
  ·
    refine x_ldcw (v := (-2000000000)) rfl z_11_455 ?_
    refine x_iret rfl rfl ?_
    exact jqe (show sp_balance a1 a2 a3 = (-2000000000) by unfold sp_balance; (repeat' split) <;> first | rfl | (exfalso; omega)) (hQ _ FM O)
  ·
    refine x_iloadn (x := a2) rfl rfl ?_
    refine x_inst (N := m_X11_isYear) (As := [.int a2]) (st := []) (d' := 99) (mc := 0) (ms := 0) (host := "") rfl t_X11_isYear ⟨Or.inl q_11_433, s_X11_isYear⟩ rfl (by decide) rfl rfl ⟨by decide, by decide⟩ (c_X11_isYear (x := a2) ?_)
    show jX m_X11_balance 100 0 0 11 [(0, .ref 31), (1, .int a1), (2, .int a2), (3, .int a3)] [.int (jp (0 ≤ a2.toInt ∧ a2.toInt ≤ 399))] _ 0 0 _
    refine x_ifeq (tgt := 21) rfl rfl (jpe ⟨fun c2 => ?_, fun c2 => ?_⟩)
    ·
      refine x_ldcw (v := (-2000000000)) rfl z_11_455 ?_
      refine x_iret rfl rfl ?_
      exact jqe (show sp_balance a1 a2 a3 = (-2000000000) by unfold sp_balance; (repeat' split) <;> first | rfl | (exfalso; omega)) (hQ _ FM O)
    ·
      refine x_iloadn (x := a3) rfl rfl ?_
      refine x_inst (N := m_X11_isDay) (As := [.int a3]) (st := []) (d' := 99) (mc := 0) (ms := 0) (host := "") rfl t_X11_isDay ⟨Or.inl q_11_115, s_X11_isDay⟩ rfl (by decide) rfl rfl ⟨by decide, by decide⟩ (c_X11_isDay (x := a3) ?_)
      show jX m_X11_balance 100 0 0 18 [(0, .ref 31), (1, .int a1), (2, .int a2), (3, .int a3)] [.int (jp (0 ≤ a3.toInt ∧ a3.toInt ≤ 146399))] _ 0 0 _
      refine x_ifne (tgt := 25) rfl rfl (jpn ⟨fun c3 => ?_, fun c3 => ?_⟩)
      ·
        refine x_aloadn (x := 31) rfl rfl ?_
        refine x_iloadn (x := a1) rfl rfl ?_
        refine x_iloadn (x := a2) rfl rfl ?_
        refine x_iloadn (x := a3) rfl rfl ?_
        refine x_inv (N := m_X11_balanceOf) (As := [.int a1, .int a2, .int a3]) (b := 31) (st := []) (d' := 99) (mc := 0) (ms := 0) (host := "") 11 rfl t_X11_balanceOf ⟨Or.inl q_11_479, i_X11_balanceOf.1, i_X11_balanceOf.2⟩ ⟨by decide, rfl⟩ (congrArg Prod.fst (F.1 31 (11, 13) rfl rfl)) rfl (by decide) rfl rfl ⟨by decide, by decide⟩ (jC.of rfl k_X11_balanceOf rfl ?_)
        show jX m_X11_balanceOf 99 0 0 0 [(0, .ref 31), (1, .int a1), (2, .int a2), (3, .int a3)] [] _ 0 0 _
        refine x_iconst (v := 0) rfl ki_0 ?_
        refine x_istore (ls' := [(4, .int 0), (0, .ref 31), (1, .int a1), (2, .int a2), (3, .int a3)]) rfl rfl rfl ?_
        refine x_aloadn (x := 31) rfl rfl ?_
        refine x_iloadn (x := a1) rfl rfl ?_
        refine x_iloadn (x := a2) rfl rfl ?_
        refine x_iconst (v := 1) rfl ki_1 ?_
        refine x_isub rfl ?_
        have c4 := jsubf (x := a2) (y := 1) (show (a2 : Int32).toInt = a2.toInt from rfl) (show (1 : Int32).toInt = 1 by decide) (by omega)
        refine x_inv (N := m_X11_closing) (As := [.int a1, .int (a2 - 1)]) (b := 31) (st := []) (d' := 98) (mc := 0) (ms := 0) (host := "") 11 rfl t_X11_closing ⟨Or.inl q_11_567, i_X11_closing.1, i_X11_closing.2⟩ ⟨by decide, rfl⟩ (congrArg Prod.fst (F.1 31 (11, 13) rfl rfl)) rfl (by decide) rfl rfl ⟨by decide, by decide⟩ (jC.of rfl k_X11_closing rfl ?_)
        show jX m_X11_closing 98 0 0 0 [(0, .ref 31), (1, .int a1), (2, .int (a2 - 1))] [] _ 0 0 _
        refine x_iconst (v := 0) rfl ki_0 ?_
        refine x_istoren (ls' := [(3, .int 0), (0, .ref 31), (1, .int a1), (2, .int (a2 - 1))]) rfl rfl rfl ?_
        refine x_iloadn (x := 0) rfl rfl ?_
        refine x_aloadn (x := 31) rfl rfl ?_
        refine x_getR (b := 32) 11 0 rfl f_11_10 rfl (congrArg Prod.fst (F.1 31 (11, 13) rfl rfl)) (F.2.1 3968 32 rfl rfl) ?_
        refine x_getR (b := 59) 1 13 rfl f_11_482 rfl (congrArg Prod.fst (F.1 32 (1, 20) rfl rfl)) (F.2.1 4109 59 rfl rfl) ?_
        refine y_getI (v := 0) 8 3 rfl f_11_142 rfl (congrArg Prod.fst (F.1 59 (8, 4) rfl rfl)) (F.2.2.1 7555 0 rfl rfl) ?_
        refine x_icge (tgt := 56) rfl rfl (br_t (by decide) ?_)
        refine x_iconst (v := (-1)) rfl ki_m1 ?_
        refine x_iret rfl rfl ?_
        show jX m_X11_balanceOf 99 0 0 11 [(4, .int 0), (0, .ref 31), (1, .int a1), (2, .int a2), (3, .int a3)] [.int (-1)] _ 0 0 _
        refine x_istore (ls' := [(5, .int (-1)), (4, .int 0), (0, .ref 31), (1, .int a1), (2, .int a2), (3, .int a3)]) rfl rfl rfl ?_
        refine x_iload (x := (-1)) rfl rfl ?_
        refine x_iconst (v := (-1)) rfl ki_m1 ?_
        refine x_iceq (tgt := 51) rfl rfl (br_t (by decide) ?_)
        refine x_iconst (v := 0) rfl ki_0 ?_
        refine x_istore (ls' := [(6, .int 0), (5, .int (-1)), (4, .int 0), (0, .ref 31), (1, .int a1), (2, .int a2), (3, .int a3)]) rfl rfl rfl ?_
        refine x_iload (x := 0) rfl rfl ?_
        refine x_aloadn (x := 31) rfl rfl ?_
        refine x_getR (b := 32) 11 0 rfl f_11_10 rfl (congrArg Prod.fst (F.1 31 (11, 13) rfl rfl)) (F.2.1 3968 32 rfl rfl) ?_
        refine x_getR (b := 57) 1 12 rfl f_11_473 rfl (congrArg Prod.fst (F.1 32 (1, 20) rfl rfl)) (F.2.1 4108 57 rfl rfl) ?_
        refine y_getI (v := 0) 8 3 rfl f_11_142 rfl (congrArg Prod.fst (F.1 57 (8, 4) rfl rfl)) (F.2.2.1 7299 0 rfl rfl) ?_
        refine x_icge (tgt := 136) rfl rfl (br_t (by decide) ?_)
        refine x_iload (x := 0) rfl rfl ?_
        refine x_iret rfl rfl ?_
        show jX m_X11_balance 100 0 0 32 [(0, .ref 31), (1, .int a1), (2, .int a2), (3, .int a3)] [.int 0] _ 0 0 _
        refine x_iret rfl rfl ?_
        exact jqe (show sp_balance a1 a2 a3 = 0 by unfold sp_balance; (repeat' split) <;> first | rfl | (exfalso; omega)) (hQ _ FM O)
      ·
        refine x_ldcw (v := (-2000000000)) rfl z_11_455 ?_
        refine x_iret rfl rfl ?_
        exact jqe (show sp_balance a1 a2 a3 = (-2000000000) by unfold sp_balance; (repeat' split) <;> first | rfl | (exfalso; omega)) (hQ _ FM O)
set_option maxRecDepth 100000 in
set_option maxHeartbeats 40000000 in
theorem pm_balance (a1 a2 a3 : Int32) {xs : Nat → Int32} {h : jH} {Q : Option Value → jH → Prop} (F : jFb 125 h) (O : jOl 7 xs h) (hQ : ∀ h', jOl 7 xs h' → Q (some (.int (sp_balance a1 a2 a3))) h') : jC m_X12_balance 100 0 0 [.ref 125, .int a1, .int a2, .int a3] h Q := by
  refine jC.of rfl k_X12_balance rfl ?_
  show jX m_X12_balance 100 0 0 0 [(0, .ref 125), (1, .int a1), (2, .int a2), (3, .int a3)] [] _ 0 0 _
  refine x_aloadn (x := 125) rfl rfl ?_
  refine x_iconst (v := 0) rfl ki_0 ?_
  refine x_putI 12 0 rfl f_12_180 rfl (jfin_no TX12 RX12 92 rfl rfl) (congrArg Prod.fst (F.1 125 (12, 92) rfl rfl)) rfl ?_
  refine x_iloadn (x := a1) rfl rfl ?_
  refine x_i2l rfl ?_
  refine x_lconst (v := 0) rfl kl_0 ?_
  refine x_ldc2 (v := 3) rfl z_12_195 ?_
  refine x_inst (N := m_X12_in) (As := [.long (a1.toInt64), .long 0, .long 3]) (st := []) (d' := 99) (mc := 0) (ms := 0) (host := "") rfl t_X12_in ⟨Or.inl q_12_188, s_X12_in⟩ rfl (by decide) rfl rfl ⟨by decide, by decide⟩ (c_X12_in (m := a1.toInt) (a := 0) (b := 3) (jt_l _) (by decide) (by decide) ?_)
  show jX m_X12_balance 100 0 0 14 [(0, .ref 125), (1, .int a1), (2, .int a2), (3, .int a3)] [.int (jp (0 ≤ a1.toInt ∧ a1.toInt ≤ 3))] _ 0 0 _
  refine x_ifeq (tgt := 41) rfl rfl (jpe ⟨fun c1 => ?_, fun c1 => ?_⟩)
  ·
    refine x_ldcw (v := (-2000000000)) rfl z_12_831 ?_
    refine x_iret rfl rfl ?_
    exact jqe (show sp_balance a1 a2 a3 = (-2000000000) by unfold sp_balance; (repeat' split) <;> first | rfl | (exfalso; omega)) (hQ _ (jOl_si rfl O))
  ·
    refine x_iloadn (x := a2) rfl rfl ?_
    refine x_inst (N := m_X12_isYear) (As := [.int a2]) (st := []) (d' := 99) (mc := 0) (ms := 0) (host := "") rfl t_X12_isYear ⟨Or.inl q_12_817, s_X12_isYear⟩ rfl (by decide) rfl rfl ⟨by decide, by decide⟩ (c_X12_isYear (x := a2) ?_)
    show jX m_X12_balance 100 0 0 21 [(0, .ref 125), (1, .int a1), (2, .int a2), (3, .int a3)] [.int (jp (0 ≤ a2.toInt ∧ a2.toInt ≤ 399))] _ 0 0 _
    refine x_ifeq (tgt := 41) rfl rfl (jpe ⟨fun c2 => ?_, fun c2 => ?_⟩)
    ·
      refine x_ldcw (v := (-2000000000)) rfl z_12_831 ?_
      refine x_iret rfl rfl ?_
      exact jqe (show sp_balance a1 a2 a3 = (-2000000000) by unfold sp_balance; (repeat' split) <;> first | rfl | (exfalso; omega)) (hQ _ (jOl_si rfl O))
    ·
      refine x_iloadn (x := a3) rfl rfl ?_
      refine x_inst (N := m_X12_isDay) (As := [.int a3]) (st := []) (d' := 99) (mc := 0) (ms := 0) (host := "") rfl t_X12_isDay ⟨Or.inl q_12_273, s_X12_isDay⟩ rfl (by decide) rfl rfl ⟨by decide, by decide⟩ (c_X12_isDay (x := a3) ?_)
      show jX m_X12_balance 100 0 0 28 [(0, .ref 125), (1, .int a1), (2, .int a2), (3, .int a3)] [.int (jp (0 ≤ a3.toInt ∧ a3.toInt ≤ 146399))] _ 0 0 _
      refine x_ifeq (tgt := 41) rfl rfl (jpe ⟨fun c3 => ?_, fun c3 => ?_⟩)
      ·
        refine x_ldcw (v := (-2000000000)) rfl z_12_831 ?_
        refine x_iret rfl rfl ?_
        exact jqe (show sp_balance a1 a2 a3 = (-2000000000) by unfold sp_balance; (repeat' split) <;> first | rfl | (exfalso; omega)) (hQ _ (jOl_si rfl O))
      ·
        refine x_aloadn (x := 125) rfl rfl ?_
        refine x_iloadn (x := a1) rfl rfl ?_
        refine x_iloadn (x := a2) rfl rfl ?_
        refine x_iloadn (x := a3) rfl rfl ?_
        refine x_inv (N := m_X12_balanceOf) (As := [.int a1, .int a2, .int a3]) (b := 125) (st := []) (d' := 99) (mc := 0) (ms := 0) (host := "") 12 rfl t_X12_balanceOf ⟨Or.inl q_12_848, i_X12_balanceOf.1, i_X12_balanceOf.2⟩ ⟨by decide, rfl⟩ (congrArg Prod.fst (sh_si (F.1 125 (12, 92) rfl rfl))) rfl (by decide) rfl rfl ⟨by decide, by decide⟩ (jC.of rfl k_X12_balanceOf rfl ?_)
        show jX m_X12_balanceOf 99 0 0 0 [(0, .ref 125), (1, .int a1), (2, .int a2), (3, .int a3)] [] _ 0 0 _
        refine x_aloadn (x := 125) rfl rfl ?_
        refine x_iloadn (x := a1) rfl rfl ?_
        refine x_iloadn (x := a2) rfl rfl ?_
        refine x_iconst (v := 1) rfl ki_1 ?_
        refine x_isub rfl ?_
        have c4 := jsubf (x := a2) (y := 1) (show (a2 : Int32).toInt = a2.toInt from rfl) (show (1 : Int32).toInt = 1 by decide) (by omega)
        refine x_inv (N := m_X12_closedAt) (As := [.int a1, .int (a2 - 1)]) (b := 125) (st := []) (d' := 98) (mc := 0) (ms := 0) (host := "") 12 rfl t_X12_closedAt ⟨Or.inl q_12_845, i_X12_closedAt.1, i_X12_closedAt.2⟩ ⟨by decide, rfl⟩ (congrArg Prod.fst (sh_si (F.1 125 (12, 92) rfl rfl))) rfl (by decide) rfl rfl ⟨by decide, by decide⟩ (jC.of rfl k_X12_closedAt rfl ?_)
        show jX m_X12_closedAt 98 0 0 0 [(0, .ref 125), (1, .int a1), (2, .int (a2 - 1))] [] _ 0 0 _
        refine x_iconst (v := (-1)) rfl ki_m1 ?_
        refine x_istoren (ls' := [(3, .int (-1)), (0, .ref 125), (1, .int a1), (2, .int (a2 - 1))]) rfl rfl rfl ?_
        refine x_iconst (v := 0) rfl ki_0 ?_
        refine x_istore (ls' := [(4, .int 0), (3, .int (-1)), (0, .ref 125), (1, .int a1), (2, .int (a2 - 1))]) rfl rfl rfl ?_
        refine x_iload (x := 0) rfl rfl ?_
        refine x_aloadn (x := 125) rfl rfl ?_
        refine x_getR (b := 126) 12 2 rfl f_12_8 rfl (congrArg Prod.fst (sh_si (F.1 125 (12, 92) rfl rfl))) (rv_si (F.2.1 16002 126 rfl rfl)) ?_
        refine x_bipush (v := 14) rfl kb_14 ?_
        refine y_iald (v := 0) (N := 50660) 14 rfl (sh_si (F.1 126 (100, 50660) rfl rfl)) (jinb_of (by decide)) (by decide) (iv_si rfl (F.2.2.2.1 126 rfl rfl 14).1) ?_
        refine x_icge (tgt := 64) rfl rfl (br_t (by decide) ?_)
        refine x_iloadn (x := (-1)) rfl rfl ?_
        refine x_iret rfl rfl ?_
        show jX m_X12_balanceOf 99 0 0 8 [(0, .ref 125), (1, .int a1), (2, .int a2), (3, .int a3)] [.int (-1)] _ 0 0 _
        refine x_istore (ls' := [(4, .int (-1)), (0, .ref 125), (1, .int a1), (2, .int a2), (3, .int a3)]) rfl rfl rfl ?_
        refine x_iload (x := (-1)) rfl rfl ?_
        refine x_iconst (v := (-1)) rfl ki_m1 ?_
        refine x_iceq (tgt := 41) rfl rfl (br_t (by decide) ?_)
        refine x_iconst (v := 0) rfl ki_0 ?_
        refine x_istore (ls' := [(5, .int 0), (4, .int (-1)), (0, .ref 125), (1, .int a1), (2, .int a2), (3, .int a3)]) rfl rfl rfl ?_
        refine x_iconst (v := 0) rfl ki_0 ?_
        refine x_istore (ls' := [(6, .int 0), (5, .int 0), (4, .int (-1)), (0, .ref 125), (1, .int a1), (2, .int a2), (3, .int a3)]) rfl rfl rfl ?_
        refine x_iload (x := 0) rfl rfl ?_
        refine x_aloadn (x := 125) rfl rfl ?_
        refine x_getR (b := 126) 12 2 rfl f_12_8 rfl (congrArg Prod.fst (sh_si (F.1 125 (12, 92) rfl rfl))) (rv_si (F.2.1 16002 126 rfl rfl)) ?_
        refine x_bipush (v := 13) rfl kb_13 ?_
        refine y_iald (v := 0) (N := 50660) 13 rfl (sh_si (F.1 126 (100, 50660) rfl rfl)) (jinb_of (by decide)) (by decide) (iv_si rfl (F.2.2.2.1 126 rfl rfl 13).1) ?_
        refine x_icge (tgt := 177) rfl rfl (br_t (by decide) ?_)
        refine x_iload (x := 0) rfl rfl ?_
        refine x_iret rfl rfl ?_
        show jX m_X12_balance 100 0 0 38 [(0, .ref 125), (1, .int a1), (2, .int a2), (3, .int a3)] [.int 0] _ 0 0 _
        refine x_goto (tgt := 44) rfl rfl ?_
        refine x_iret rfl rfl ?_
        exact jqe (show sp_balance a1 a2 a3 = 0 by unfold sp_balance; (repeat' split) <;> first | rfl | (exfalso; omega)) (hQ _ (jOl_si rfl O))
def sp_beyond (a1 a2 : Int32) : Int32 := (-1)
set_option maxRecDepth 100000 in
set_option maxHeartbeats 40000000 in
theorem px_beyond (a1 a2 : Int32) {xs : Nat → Int32} {h : jH} {Q : Option Value → jH → Prop} (F : jFb 31 h) (O : jOl 7 xs h) (hQ : ∀ h', jFb 125 h' → jOl 7 xs h' → Q (some (.int (sp_beyond a1 a2))) h') : jC m_X11_beyond 100 0 0 [.ref 31, .int a1, .int a2] h Q := by
  have FM := jFb_up 125 rfl F
  refine jC.of rfl k_X11_beyond rfl ?_
  show jX m_X11_beyond 100 0 0 0 [(0, .ref 31), (1, .int a1), (2, .int a2)] [] _ 0 0 _
  refine x_aloadn (x := 31) rfl rfl ?_
  refine x_iloadn (x := a1) rfl rfl ?_
  refine x_iloadn (x := a2) rfl rfl ?_
  refine x_inv (N := m_X11_isKnownLine) (As := [.int a1, .int a2]) (b := 31) (st := []) (d' := 99) (mc := 0) (ms := 0) (host := "") 11 rfl t_X11_isKnownLine ⟨Or.inl q_11_393, i_X11_isKnownLine.1, i_X11_isKnownLine.2⟩ ⟨by decide, rfl⟩ (congrArg Prod.fst (F.1 31 (11, 13) rfl rfl)) rfl (by decide) rfl rfl ⟨by decide, by decide⟩ (jC.of rfl k_X11_isKnownLine rfl ?_)
  show jX m_X11_isKnownLine 99 0 0 0 [(0, .ref 31), (1, .int a1), (2, .int a2)] [] _ 0 0 _
  refine x_iloadn (x := a2) rfl rfl ?_
  refine x_inst (N := m_X11_isDay) (As := [.int a2]) (st := []) (d' := 98) (mc := 0) (ms := 0) (host := "") rfl t_X11_isDay ⟨Or.inl q_11_115, s_X11_isDay⟩ rfl (by decide) rfl rfl ⟨by decide, by decide⟩ (c_X11_isDay (x := a2) ?_)
  show jX m_X11_isKnownLine 99 0 0 4 [(0, .ref 31), (1, .int a1), (2, .int a2)] [.int (jp (0 ≤ a2.toInt ∧ a2.toInt ≤ 146399))] _ 0 0 _
  refine x_ifeq (tgt := 26) rfl rfl (jpe ⟨fun c1 => ?_, fun c1 => ?_⟩)
  ·
    refine x_iconst (v := 0) rfl ki_0 ?_
    refine x_zret rfl rfl (by first | decide | exact jp_01 _) ?_
    show jX m_X11_beyond 100 0 0 6 [(0, .ref 31), (1, .int a1), (2, .int a2)] [.int 0] _ 0 0 _
    refine x_ifeq (tgt := 25) rfl rfl (br_t (by decide) ?_)
    refine x_iconst (v := (-1)) rfl ki_m1 ?_
    refine x_iret rfl rfl ?_
    exact jqe (show sp_beyond a1 a2 = (-1) by unfold sp_beyond; (repeat' split) <;> first | rfl | (exfalso; omega)) (hQ _ FM O)
  ·
    refine x_aloadn (x := 31) rfl rfl ?_
    refine x_getR (b := 32) 11 0 rfl f_11_10 rfl (congrArg Prod.fst (F.1 31 (11, 13) rfl rfl)) (F.2.1 3968 32 rfl rfl) ?_
    refine x_getR (b := 33) 1 0 rfl f_11_126 rfl (congrArg Prod.fst (F.1 32 (1, 20) rfl rfl)) (F.2.1 4096 33 rfl rfl) ?_
    refine x_iloadn (x := a1) rfl rfl ?_
    refine x_iloadn (x := a2) rfl rfl ?_
    refine x_inv (N := m_X8_isKnown) (As := [.int a1, .int a2]) (b := 33) (st := []) (d' := 98) (mc := 0) (ms := 0) (host := "") 8 rfl t_X8_isKnown ⟨Or.inl q_11_440, i_X8_isKnown.1, i_X8_isKnown.2⟩ ⟨by decide, rfl⟩ (congrArg Prod.fst (F.1 33 (8, 4) rfl rfl)) rfl (by decide) rfl rfl ⟨by decide, by decide⟩ (jC.of rfl k_X8_isKnown rfl ?_)
    show jX m_X8_isKnown 98 0 0 0 [(0, .ref 33), (1, .int a1), (2, .int a2)] [] _ 0 0 _
    refine x_iloadn (x := a1) rfl rfl ?_
    refine x_iflt (tgt := 31) rfl rfl (ti_lt (show (a1 : Int32).toInt = a1.toInt from rfl) (show (0 : Int32).toInt = 0 by decide) ⟨fun c2 => ?_, fun c2 => ?_⟩)
    ·
      refine x_iconst (v := 0) rfl ki_0 ?_
      refine x_zret rfl rfl (by first | decide | exact jp_01 _) ?_
      show jX m_X11_isKnownLine 99 0 0 19 [(0, .ref 31), (1, .int a1), (2, .int a2)] [.int 0] _ 0 0 _
      refine x_ifeq (tgt := 26) rfl rfl (br_t (by decide) ?_)
      refine x_iconst (v := 0) rfl ki_0 ?_
      refine x_zret rfl rfl (by first | decide | exact jp_01 _) ?_
      show jX m_X11_beyond 100 0 0 6 [(0, .ref 31), (1, .int a1), (2, .int a2)] [.int 0] _ 0 0 _
      refine x_ifeq (tgt := 25) rfl rfl (br_t (by decide) ?_)
      refine x_iconst (v := (-1)) rfl ki_m1 ?_
      refine x_iret rfl rfl ?_
      exact jqe (show sp_beyond a1 a2 = (-1) by unfold sp_beyond; (repeat' split) <;> first | rfl | (exfalso; omega)) (hQ _ FM O)
    ·
      refine x_iloadn (x := a1) rfl rfl ?_
      refine x_aloadn (x := 33) rfl rfl ?_
      refine y_getI (v := 0) 8 3 rfl f_8_7 rfl (congrArg Prod.fst (F.1 33 (8, 4) rfl rfl)) (F.2.2.1 4227 0 rfl rfl) ?_
      refine x_icge (tgt := 31) rfl rfl (ti_ge (show (a1 : Int32).toInt = a1.toInt from rfl) (show (0 : Int32).toInt = 0 by decide) ⟨fun c3 => ?_, fun c3 => ?_⟩)
      ·
        refine x_iconst (v := 0) rfl ki_0 ?_
        refine x_zret rfl rfl (by first | decide | exact jp_01 _) ?_
        show jX m_X11_isKnownLine 99 0 0 19 [(0, .ref 31), (1, .int a1), (2, .int a2)] [.int 0] _ 0 0 _
        refine x_ifeq (tgt := 26) rfl rfl (br_t (by decide) ?_)
        refine x_iconst (v := 0) rfl ki_0 ?_
        refine x_zret rfl rfl (by first | decide | exact jp_01 _) ?_
        show jX m_X11_beyond 100 0 0 6 [(0, .ref 31), (1, .int a1), (2, .int a2)] [.int 0] _ 0 0 _
        refine x_ifeq (tgt := 25) rfl rfl (br_t (by decide) ?_)
        refine x_iconst (v := (-1)) rfl ki_m1 ?_
        refine x_iret rfl rfl ?_
        exact jqe (show sp_beyond a1 a2 = (-1) by unfold sp_beyond; (repeat' split) <;> first | rfl | (exfalso; omega)) (hQ _ FM O)
      ·
        exfalso
        omega
set_option maxRecDepth 100000 in
set_option maxHeartbeats 40000000 in
theorem pm_beyond (a1 a2 : Int32) {xs : Nat → Int32} {h : jH} {Q : Option Value → jH → Prop} (F : jFb 125 h) (O : jOl 7 xs h) (hQ : ∀ h', jOl 7 xs h' → Q (some (.int (sp_beyond a1 a2))) h') : jC m_X12_beyond 100 0 0 [.ref 125, .int a1, .int a2] h Q := by
  refine jC.of rfl k_X12_beyond rfl ?_
  show jX m_X12_beyond 100 0 0 0 [(0, .ref 125), (1, .int a1), (2, .int a2)] [] _ 0 0 _
  refine x_aloadn (x := 125) rfl rfl ?_
  refine x_iconst (v := 0) rfl ki_0 ?_
  refine x_putI 12 0 rfl f_12_180 rfl (jfin_no TX12 RX12 92 rfl rfl) (congrArg Prod.fst (F.1 125 (12, 92) rfl rfl)) rfl ?_
  refine x_aloadn (x := 125) rfl rfl ?_
  refine x_iloadn (x := a1) rfl rfl ?_
  refine x_inv (N := m_X12_isLine) (As := [.int a1]) (b := 125) (st := []) (d' := 99) (mc := 0) (ms := 0) (host := "") 12 rfl t_X12_isLine ⟨Or.inl q_12_293, i_X12_isLine.1, i_X12_isLine.2⟩ ⟨by decide, rfl⟩ (congrArg Prod.fst (sh_si (F.1 125 (12, 92) rfl rfl))) rfl (by decide) rfl rfl ⟨by decide, by decide⟩ (jC.of rfl k_X12_isLine rfl ?_)
  show jX m_X12_isLine 99 0 0 0 [(0, .ref 125), (1, .int a1)] [] _ 0 0 _
  refine x_iloadn (x := a1) rfl rfl ?_
  refine x_i2l rfl ?_
  refine x_lconst (v := 0) rfl kl_0 ?_
  refine x_aloadn (x := 125) rfl rfl ?_
  refine x_getR (b := 126) 12 2 rfl f_12_8 rfl (congrArg Prod.fst (sh_si (F.1 125 (12, 92) rfl rfl))) (rv_si (F.2.1 16002 126 rfl rfl)) ?_
  refine x_iconst (v := 0) rfl ki_0 ?_
  refine y_iald (v := 0) (N := 50660) 0 rfl (sh_si (F.1 126 (100, 50660) rfl rfl)) (jinb_of (by decide)) (by decide) (iv_si rfl (F.2.2.2.1 126 rfl rfl 0).1) ?_
  refine y_i2l (v := 0) rfl (by decide) ?_
  refine x_lconst (v := 1) rfl kl_1 ?_
  refine y_lsub (v := (-1)) rfl (by decide) ?_
  refine x_inst (N := m_X12_in) (As := [.long (a1.toInt64), .long 0, .long (-1)]) (st := []) (d' := 98) (mc := 0) (ms := 0) (host := "") rfl t_X12_in ⟨Or.inl q_12_188, s_X12_in⟩ rfl (by decide) rfl rfl ⟨by decide, by decide⟩ (c_X12_in (m := a1.toInt) (a := 0) (b := (-1)) (jt_l _) (by decide) (by decide) ?_)
  show jX m_X12_isLine 99 0 0 15 [(0, .ref 125), (1, .int a1)] [.int (jp (0 ≤ a1.toInt ∧ a1.toInt ≤ (-1)))] _ 0 0 _
  refine x_zret rfl rfl (by first | decide | exact jp_01 _) ?_
  show jX m_X12_beyond 100 0 0 10 [(0, .ref 125), (1, .int a1), (2, .int a2)] [.int (jp (0 ≤ a1.toInt ∧ a1.toInt ≤ (-1)))] _ 0 0 _
  refine x_ifeq (tgt := 38) rfl rfl (jpe ⟨fun c1 => ?_, fun c1 => ?_⟩)
  ·
    refine x_iconst (v := (-1)) rfl ki_m1 ?_
    refine x_iret rfl rfl ?_
    exact jqe (show sp_beyond a1 a2 = (-1) by unfold sp_beyond; (repeat' split) <;> first | rfl | (exfalso; omega)) (hQ _ (jOl_si rfl O))
  ·
    exfalso
    omega
