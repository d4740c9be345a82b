def sp_order (a1 a2 a3 : Int32) : Int32 := (-1)
set_option maxRecDepth 100000 in
set_option maxHeartbeats 40000000 in
theorem px_order (a1 a2 a3 : Int32) {xs : Nat → Int32} {h : jH} {Q : Option Value → jH → Prop} (F : jFb 31 h) (O : jOl 7 xs h) (hQ : ∀ h', jFb 125 h' → jOl 7 xs h' → Q (some (.int (sp_order a1 a2 a3))) h') : jC m_X11_order 100 0 0 [.ref 31, .int a1, .int a2, .int a3] h Q := by
  have FM := jFb_up 125 rfl F
  refine jC.of rfl k_X11_order rfl ?_
  show jX m_X11_order 100 0 0 0 [(0, .ref 31), (1, .int a1), (2, .int a2), (3, .int a3)] [] _ 0 0 _
  refine x_aloadn (x := 31) rfl rfl ?_
  refine x_iloadn (x := a1) rfl rfl ?_
  refine x_iloadn (x := a2) rfl rfl ?_
  refine x_inv (N := m_X11_isKnownLine) (As := [.int a1, .int a2]) (b := 31) (st := []) (d' := 99) (mc := 0) (ms := 0) (host := "") 11 rfl t_X11_isKnownLine ⟨Or.inl q_11_393, i_X11_isKnownLine.1, i_X11_isKnownLine.2⟩ ⟨by decide, rfl⟩ (congrArg Prod.fst (F.1 31 (11, 13) rfl rfl)) rfl (by decide) rfl rfl ⟨by decide, by decide⟩ (jC.of rfl k_X11_isKnownLine rfl ?_)
  show jX m_X11_isKnownLine 99 0 0 0 [(0, .ref 31), (1, .int a1), (2, .int a2)] [] _ 0 0 _
  refine x_iloadn (x := a2) rfl rfl ?_
  refine x_inst (N := m_X11_isDay) (As := [.int a2]) (st := []) (d' := 98) (mc := 0) (ms := 0) (host := "") rfl t_X11_isDay ⟨Or.inl q_11_115, s_X11_isDay⟩ rfl (by decide) rfl rfl ⟨by decide, by decide⟩ (c_X11_isDay (x := a2) ?_)
  show jX m_X11_isKnownLine 99 0 0 4 [(0, .ref 31), (1, .int a1), (2, .int a2)] [.int (jp (0 ≤ a2.toInt ∧ a2.toInt ≤ 146399))] _ 0 0 _
  refine x_ifeq (tgt := 26) rfl rfl (jpe ⟨fun c1 => ?_, fun c1 => ?_⟩)
  ·
    refine x_iconst (v := 0) rfl ki_0 ?_
    refine x_zret rfl rfl (by first | decide | exact jp_01 _) ?_
    show jX m_X11_order 100 0 0 6 [(0, .ref 31), (1, .int a1), (2, .int a2), (3, .int a3)] [.int 0] _ 0 0 _
    refine x_ifeq (tgt := 34) rfl rfl (br_t (by decide) ?_)
    refine x_iconst (v := (-1)) rfl ki_m1 ?_
    refine x_iret rfl rfl ?_
    exact jqe (show sp_order a1 a2 a3 = (-1) by unfold sp_order; (repeat' split) <;> first | rfl | (exfalso; omega)) (hQ _ FM O)
  ·
    refine x_aloadn (x := 31) rfl rfl ?_
    refine x_getR (b := 32) 11 0 rfl f_11_10 rfl (congrArg Prod.fst (F.1 31 (11, 13) rfl rfl)) (F.2.1 3968 32 rfl rfl) ?_
    refine x_getR (b := 33) 1 0 rfl f_11_126 rfl (congrArg Prod.fst (F.1 32 (1, 20) rfl rfl)) (F.2.1 4096 33 rfl rfl) ?_
    refine x_iloadn (x := a1) rfl rfl ?_
    refine x_iloadn (x := a2) rfl rfl ?_
    refine x_inv (N := m_X8_isKnown) (As := [.int a1, .int a2]) (b := 33) (st := []) (d' := 98) (mc := 0) (ms := 0) (host := "") 8 rfl t_X8_isKnown ⟨Or.inl q_11_440, i_X8_isKnown.1, i_X8_isKnown.2⟩ ⟨by decide, rfl⟩ (congrArg Prod.fst (F.1 33 (8, 4) rfl rfl)) rfl (by decide) rfl rfl ⟨by decide, by decide⟩ (jC.of rfl k_X8_isKnown rfl ?_)
    show jX m_X8_isKnown 98 0 0 0 [(0, .ref 33), (1, .int a1), (2, .int a2)] [] _ 0 0 _
    refine x_iloadn (x := a1) rfl rfl ?_
    refine x_iflt (tgt := 31) rfl rfl (ti_lt (show (a1 : Int32).toInt = a1.toInt from rfl) (show (0 : Int32).toInt = 0 by decide) ⟨fun c2 => ?_, fun c2 => ?_⟩)
    ·
      refine x_iconst (v := 0) rfl ki_0 ?_
      refine x_zret rfl rfl (by first | decide | exact jp_01 _) ?_
      show jX m_X11_isKnownLine 99 0 0 19 [(0, .ref 31), (1, .int a1), (2, .int a2)] [.int 0] _ 0 0 _
      refine x_ifeq (tgt := 26) rfl rfl (br_t (by decide) ?_)
      refine x_iconst (v := 0) rfl ki_0 ?_
      refine x_zret rfl rfl (by first | decide | exact jp_01 _) ?_
      show jX m_X11_order 100 0 0 6 [(0, .ref 31), (1, .int a1), (2, .int a2), (3, .int a3)] [.int 0] _ 0 0 _
      refine x_ifeq (tgt := 34) rfl rfl (br_t (by decide) ?_)
      refine x_iconst (v := (-1)) rfl ki_m1 ?_
      refine x_iret rfl rfl ?_
      exact jqe (show sp_order a1 a2 a3 = (-1) by unfold sp_order; (repeat' split) <;> first | rfl | (exfalso; omega)) (hQ _ FM O)
    ·
      refine x_iloadn (x := a1) rfl rfl ?_
      refine x_aloadn (x := 33) rfl rfl ?_
      refine y_getI (v := 0) 8 3 rfl f_8_7 rfl (congrArg Prod.fst (F.1 33 (8, 4) rfl rfl)) (F.2.2.1 4227 0 rfl rfl) ?_
      refine x_icge (tgt := 31) rfl rfl (ti_ge (show (a1 : Int32).toInt = a1.toInt from rfl) (show (0 : Int32).toInt = 0 by decide) ⟨fun c3 => ?_, fun c3 => ?_⟩)
      ·
        refine x_iconst (v := 0) rfl ki_0 ?_
        refine x_zret rfl rfl (by first | decide | exact jp_01 _) ?_
        show jX m_X11_isKnownLine 99 0 0 19 [(0, .ref 31), (1, .int a1), (2, .int a2)] [.int 0] _ 0 0 _
        refine x_ifeq (tgt := 26) rfl rfl (br_t (by decide) ?_)
        refine x_iconst (v := 0) rfl ki_0 ?_
        refine x_zret rfl rfl (by first | decide | exact jp_01 _) ?_
        show jX m_X11_order 100 0 0 6 [(0, .ref 31), (1, .int a1), (2, .int a2), (3, .int a3)] [.int 0] _ 0 0 _
        refine x_ifeq (tgt := 34) rfl rfl (br_t (by decide) ?_)
        refine x_iconst (v := (-1)) rfl ki_m1 ?_
        refine x_iret rfl rfl ?_
        exact jqe (show sp_order a1 a2 a3 = (-1) by unfold sp_order; (repeat' split) <;> first | rfl | (exfalso; omega)) (hQ _ FM O)
      ·
        exfalso
        omega
set_option maxRecDepth 100000 in
set_option maxHeartbeats 40000000 in
theorem pm_order (a1 a2 a3 : Int32) {xs : Nat → Int32} {h : jH} {Q : Option Value → jH → Prop} (F : jFb 125 h) (O : jOl 7 xs h) (hQ : ∀ h', jOl 7 xs h' → Q (some (.int (sp_order a1 a2 a3))) h') : jC m_X12_order 100 0 0 [.ref 125, .int a1, .int a2, .int a3] h Q := by
  refine jC.of rfl k_X12_order rfl ?_
  show jX m_X12_order 100 0 0 0 [(0, .ref 125), (1, .int a1), (2, .int a2), (3, .int a3)] [] _ 0 0 _
  refine x_aloadn (x := 125) rfl rfl ?_
  refine x_iconst (v := 0) rfl ki_0 ?_
  refine x_putI 12 0 rfl f_12_180 rfl (jfin_no TX12 RX12 92 rfl rfl) (congrArg Prod.fst (F.1 125 (12, 92) rfl rfl)) rfl ?_
  refine x_aloadn (x := 125) rfl rfl ?_
  refine x_iloadn (x := a1) rfl rfl ?_
  refine x_inv (N := m_X12_isLine) (As := [.int a1]) (b := 125) (st := []) (d' := 99) (mc := 0) (ms := 0) (host := "") 12 rfl t_X12_isLine ⟨Or.inl q_12_293, i_X12_isLine.1, i_X12_isLine.2⟩ ⟨by decide, rfl⟩ (congrArg Prod.fst (sh_si (F.1 125 (12, 92) rfl rfl))) rfl (by decide) rfl rfl ⟨by decide, by decide⟩ (jC.of rfl k_X12_isLine rfl ?_)
  show jX m_X12_isLine 99 0 0 0 [(0, .ref 125), (1, .int a1)] [] _ 0 0 _
  refine x_iloadn (x := a1) rfl rfl ?_
  refine x_i2l rfl ?_
  refine x_lconst (v := 0) rfl kl_0 ?_
  refine x_aloadn (x := 125) rfl rfl ?_
  refine x_getR (b := 126) 12 2 rfl f_12_8 rfl (congrArg Prod.fst (sh_si (F.1 125 (12, 92) rfl rfl))) (rv_si (F.2.1 16002 126 rfl rfl)) ?_
  refine x_iconst (v := 0) rfl ki_0 ?_
  refine y_iald (v := 0) (N := 50660) 0 rfl (sh_si (F.1 126 (100, 50660) rfl rfl)) (jinb_of (by decide)) (by decide) (iv_si rfl (F.2.2.2.1 126 rfl rfl 0).1) ?_
  refine y_i2l (v := 0) rfl (by decide) ?_
  refine x_lconst (v := 1) rfl kl_1 ?_
  refine y_lsub (v := (-1)) rfl (by decide) ?_
  refine x_inst (N := m_X12_in) (As := [.long (a1.toInt64), .long 0, .long (-1)]) (st := []) (d' := 98) (mc := 0) (ms := 0) (host := "") rfl t_X12_in ⟨Or.inl q_12_188, s_X12_in⟩ rfl (by decide) rfl rfl ⟨by decide, by decide⟩ (c_X12_in (m := a1.toInt) (a := 0) (b := (-1)) (jt_l _) (by decide) (by decide) ?_)
  show jX m_X12_isLine 99 0 0 15 [(0, .ref 125), (1, .int a1)] [.int (jp (0 ≤ a1.toInt ∧ a1.toInt ≤ (-1)))] _ 0 0 _
  refine x_zret rfl rfl (by first | decide | exact jp_01 _) ?_
  show jX m_X12_order 100 0 0 10 [(0, .ref 125), (1, .int a1), (2, .int a2), (3, .int a3)] [.int (jp (0 ≤ a1.toInt ∧ a1.toInt ≤ (-1)))] _ 0 0 _
  refine x_ifeq (tgt := 50) rfl rfl (jpe ⟨fun c1 => ?_, fun c1 => ?_⟩)
  ·
    refine x_iconst (v := (-1)) rfl ki_m1 ?_
    refine x_iret rfl rfl ?_
    exact jqe (show sp_order a1 a2 a3 = (-1) by unfold sp_order; (repeat' split) <;> first | rfl | (exfalso; omega)) (hQ _ (jOl_si rfl O))
  ·
    exfalso
    omega
def sp_appeal (a1 a2 a3 : Int32) : Int32 := if (0 ≤ a2.toInt ∧ a2.toInt ≤ 146399) ∧ (0 ≤ a3.toInt ∧ a3.toInt ≤ 146399) then (-2) else (-1)
set_option maxRecDepth 100000 in
set_option maxHeartbeats 40000000 in
theorem px_appeal (a1 a2 a3 : Int32) {xs : Nat → Int32} {h : jH} {Q : Option Value → jH → Prop} (F : jFb 31 h) (O : jOl 7 xs h) (hQ : ∀ h', jFb 125 h' → jOl 7 xs h' → Q (some (.int (sp_appeal a1 a2 a3))) h') : jC m_X11_appeal 100 0 0 [.ref 31, .int a1, .int a2, .int a3] h Q := by
  have FM := jFb_up 125 rfl F
  refine jC.of rfl k_X11_appeal rfl ?_
  show jX m_X11_appeal 100 0 0 0 [(0, .ref 31), (1, .int a1), (2, .int a2), (3, .int a3)] [] _ 0 0 _
  refine x_iloadn (x := a2) rfl rfl ?_
  refine x_inst (N := m_X11_isDay) (As := [.int a2]) (st := []) (d' := 99) (mc := 0) (ms := 0) (host := "") rfl t_X11_isDay ⟨Or.inl q_11_115, s_X11_isDay⟩ rfl (by decide) rfl rfl ⟨by decide, by decide⟩ (c_X11_isDay (x := a2) ?_)
  show jX m_X11_appeal 100 0 0 4 [(0, .ref 31), (1, .int a1), (2, .int a2), (3, .int a3)] [.int (jp (0 ≤ a2.toInt ∧ a2.toInt ≤ 146399))] _ 0 0 _
  refine x_ifeq (tgt := 14) rfl rfl (jpe ⟨fun c1 => ?_, fun c1 => ?_⟩)
  ·
    refine x_aloadn (x := 31) rfl rfl ?_
    refine x_iconst (v := (-1)) rfl ki_m1 ?_
    refine x_inv (N := m_X11_refuse) (As := [.int (-1)]) (b := 31) (st := []) (d' := 99) (mc := 0) (ms := 0) (host := "") 11 rfl t_X11_refuse ⟨Or.inl q_11_206, i_X11_refuse.1, i_X11_refuse.2⟩ ⟨by decide, rfl⟩ (congrArg Prod.fst (F.1 31 (11, 13) rfl rfl)) rfl (by decide) rfl rfl ⟨by decide, by decide⟩ (jC.of rfl k_X11_refuse rfl ?_)
    show jX m_X11_refuse 99 0 0 0 [(0, .ref 31), (1, .int (-1))] [] _ 0 0 _
    refine x_aloadn (x := 31) rfl rfl ?_
    refine x_iloadn (x := (-1)) rfl rfl ?_
    refine x_putI 11 12 rfl f_11_94 rfl (jfin_no TX11 RX11 13 rfl rfl) (congrArg Prod.fst (F.1 31 (11, 13) rfl rfl)) rfl ?_
    refine x_iloadn (x := (-1)) rfl rfl ?_
    refine x_iret rfl rfl ?_
    show jX m_X11_appeal 100 0 0 19 [(0, .ref 31), (1, .int a1), (2, .int a2), (3, .int a3)] [.int (-1)] _ 0 0 _
    refine x_iret rfl rfl ?_
    exact jqe (show sp_appeal a1 a2 a3 = (-1) by unfold sp_appeal; (repeat' split) <;> first | rfl | (exfalso; omega)) (hQ _ (jFb_si rfl FM) (jOl_si rfl O))
  ·
    refine x_iloadn (x := a3) rfl rfl ?_
    refine x_inst (N := m_X11_isDay) (As := [.int a3]) (st := []) (d' := 99) (mc := 0) (ms := 0) (host := "") rfl t_X11_isDay ⟨Or.inl q_11_115, s_X11_isDay⟩ rfl (by decide) rfl rfl ⟨by decide, by decide⟩ (c_X11_isDay (x := a3) ?_)
    show jX m_X11_appeal 100 0 0 11 [(0, .ref 31), (1, .int a1), (2, .int a2), (3, .int a3)] [.int (jp (0 ≤ a3.toInt ∧ a3.toInt ≤ 146399))] _ 0 0 _
    refine x_ifne (tgt := 20) rfl rfl (jpn ⟨fun c2 => ?_, fun c2 => ?_⟩)
    ·
      refine x_aloadn (x := 31) rfl rfl ?_
      refine x_iloadn (x := a1) rfl rfl ?_
      refine x_inv (N := m_X11_isLine) (As := [.int a1]) (b := 31) (st := []) (d' := 99) (mc := 0) (ms := 0) (host := "") 11 rfl t_X11_isLine ⟨Or.inl q_11_168, i_X11_isLine.1, i_X11_isLine.2⟩ ⟨by decide, rfl⟩ (congrArg Prod.fst (F.1 31 (11, 13) rfl rfl)) rfl (by decide) rfl rfl ⟨by decide, by decide⟩ (jC.of rfl k_X11_isLine rfl ?_)
      show jX m_X11_isLine 99 0 0 0 [(0, .ref 31), (1, .int a1)] [] _ 0 0 _
      refine x_iloadn (x := a1) rfl rfl ?_
      refine x_iflt (tgt := 22) rfl rfl (ti_lt (show (a1 : Int32).toInt = a1.toInt from rfl) (show (0 : Int32).toInt = 0 by decide) ⟨fun c3 => ?_, fun c3 => ?_⟩)
      ·
        refine x_iconst (v := 0) rfl ki_0 ?_
        refine x_zret rfl rfl (by first | decide | exact jp_01 _) ?_
        show jX m_X11_appeal 100 0 0 25 [(0, .ref 31), (1, .int a1), (2, .int a2), (3, .int a3)] [.int 0] _ 0 0 _
        refine x_ifeq (tgt := 44) rfl rfl (br_t (by decide) ?_)
        refine x_aloadn (x := 31) rfl rfl ?_
        refine x_bipush (v := (-2)) rfl kb_m2 ?_
        refine x_inv (N := m_X11_refuse) (As := [.int (-2)]) (b := 31) (st := []) (d' := 99) (mc := 0) (ms := 0) (host := "") 11 rfl t_X11_refuse ⟨Or.inl q_11_206, i_X11_refuse.1, i_X11_refuse.2⟩ ⟨by decide, rfl⟩ (congrArg Prod.fst (F.1 31 (11, 13) rfl rfl)) rfl (by decide) rfl rfl ⟨by decide, by decide⟩ (jC.of rfl k_X11_refuse rfl ?_)
        show jX m_X11_refuse 99 0 0 0 [(0, .ref 31), (1, .int (-2))] [] _ 0 0 _
        refine x_aloadn (x := 31) rfl rfl ?_
        refine x_iloadn (x := (-2)) rfl rfl ?_
        refine x_putI 11 12 rfl f_11_94 rfl (jfin_no TX11 RX11 13 rfl rfl) (congrArg Prod.fst (F.1 31 (11, 13) rfl rfl)) rfl ?_
        refine x_iloadn (x := (-2)) rfl rfl ?_
        refine x_iret rfl rfl ?_
        show jX m_X11_appeal 100 0 0 50 [(0, .ref 31), (1, .int a1), (2, .int a2), (3, .int a3)] [.int (-2)] _ 0 0 _
        refine x_iret rfl rfl ?_
        exact jqe (show sp_appeal a1 a2 a3 = (-2) by unfold sp_appeal; (repeat' split) <;> first | rfl | (exfalso; omega)) (hQ _ (jFb_si rfl FM) (jOl_si rfl O))
      ·
        refine x_iloadn (x := a1) rfl rfl ?_
        refine x_aloadn (x := 31) rfl rfl ?_
        refine x_getR (b := 32) 11 0 rfl f_11_10 rfl (congrArg Prod.fst (F.1 31 (11, 13) rfl rfl)) (F.2.1 3968 32 rfl rfl) ?_
        refine x_getR (b := 33) 1 0 rfl f_11_126 rfl (congrArg Prod.fst (F.1 32 (1, 20) rfl rfl)) (F.2.1 4096 33 rfl rfl) ?_
        refine y_getI (v := 0) 8 3 rfl f_11_142 rfl (congrArg Prod.fst (F.1 33 (8, 4) rfl rfl)) (F.2.2.1 4227 0 rfl rfl) ?_
        refine x_icge (tgt := 22) rfl rfl (ti_ge (show (a1 : Int32).toInt = a1.toInt from rfl) (show (0 : Int32).toInt = 0 by decide) ⟨fun c4 => ?_, fun c4 => ?_⟩)
        ·
          refine x_iconst (v := 0) rfl ki_0 ?_
          refine x_zret rfl rfl (by first | decide | exact jp_01 _) ?_
          show jX m_X11_appeal 100 0 0 25 [(0, .ref 31), (1, .int a1), (2, .int a2), (3, .int a3)] [.int 0] _ 0 0 _
          refine x_ifeq (tgt := 44) rfl rfl (br_t (by decide) ?_)
          refine x_aloadn (x := 31) rfl rfl ?_
          refine x_bipush (v := (-2)) rfl kb_m2 ?_
          refine x_inv (N := m_X11_refuse) (As := [.int (-2)]) (b := 31) (st := []) (d' := 99) (mc := 0) (ms := 0) (host := "") 11 rfl t_X11_refuse ⟨Or.inl q_11_206, i_X11_refuse.1, i_X11_refuse.2⟩ ⟨by decide, rfl⟩ (congrArg Prod.fst (F.1 31 (11, 13) rfl rfl)) rfl (by decide) rfl rfl ⟨by decide, by decide⟩ (jC.of rfl k_X11_refuse rfl ?_)
          show jX m_X11_refuse 99 0 0 0 [(0, .ref 31), (1, .int (-2))] [] _ 0 0 _
          refine x_aloadn (x := 31) rfl rfl ?_
          refine x_iloadn (x := (-2)) rfl rfl ?_
          refine x_putI 11 12 rfl f_11_94 rfl (jfin_no TX11 RX11 13 rfl rfl) (congrArg Prod.fst (F.1 31 (11, 13) rfl rfl)) rfl ?_
          refine x_iloadn (x := (-2)) rfl rfl ?_
          refine x_iret rfl rfl ?_
          show jX m_X11_appeal 100 0 0 50 [(0, .ref 31), (1, .int a1), (2, .int a2), (3, .int a3)] [.int (-2)] _ 0 0 _
          refine x_iret rfl rfl ?_
          exact jqe (show sp_appeal a1 a2 a3 = (-2) by unfold sp_appeal; (repeat' split) <;> first | rfl | (exfalso; omega)) (hQ _ (jFb_si rfl FM) (jOl_si rfl O))
        ·
          exfalso
          omega
    ·
      refine x_aloadn (x := 31) rfl rfl ?_
      refine x_iconst (v := (-1)) rfl ki_m1 ?_
      refine x_inv (N := m_X11_refuse) (As := [.int (-1)]) (b := 31) (st := []) (d' := 99) (mc := 0) (ms := 0) (host := "") 11 rfl t_X11_refuse ⟨Or.inl q_11_206, i_X11_refuse.1, i_X11_refuse.2⟩ ⟨by decide, rfl⟩ (congrArg Prod.fst (F.1 31 (11, 13) rfl rfl)) rfl (by decide) rfl rfl ⟨by decide, by decide⟩ (jC.of rfl k_X11_refuse rfl ?_)
      show jX m_X11_refuse 99 0 0 0 [(0, .ref 31), (1, .int (-1))] [] _ 0 0 _
      refine x_aloadn (x := 31) rfl rfl ?_
      refine x_iloadn (x := (-1)) rfl rfl ?_
      refine x_putI 11 12 rfl f_11_94 rfl (jfin_no TX11 RX11 13 rfl rfl) (congrArg Prod.fst (F.1 31 (11, 13) rfl rfl)) rfl ?_
      refine x_iloadn (x := (-1)) rfl rfl ?_
      refine x_iret rfl rfl ?_
      show jX m_X11_appeal 100 0 0 19 [(0, .ref 31), (1, .int a1), (2, .int a2), (3, .int a3)] [.int (-1)] _ 0 0 _
      refine x_iret rfl rfl ?_
      exact jqe (show sp_appeal a1 a2 a3 = (-1) by unfold sp_appeal; (repeat' split) <;> first | rfl | (exfalso; omega)) (hQ _ (jFb_si rfl FM) (jOl_si rfl O))
set_option maxRecDepth 100000 in
set_option maxHeartbeats 40000000 in
theorem pm_appeal (a1 a2 a3 : Int32) {xs : Nat → Int32} {h : jH} {Q : Option Value → jH → Prop} (F : jFb 125 h) (O : jOl 7 xs h) (hQ : ∀ h', jOl 7 xs h' → Q (some (.int (sp_appeal a1 a2 a3))) h') : jC m_X12_appeal 100 0 0 [.ref 125, .int a1, .int a2, .int a3] h Q := by
  refine jC.of rfl k_X12_appeal rfl ?_
  show jX m_X12_appeal 100 0 0 0 [(0, .ref 125), (1, .int a1), (2, .int a2), (3, .int a3)] [] _ 0 0 _
  refine x_aloadn (x := 125) rfl rfl ?_
  refine x_iconst (v := 0) rfl ki_0 ?_
  refine x_putI 12 0 rfl f_12_180 rfl (jfin_no TX12 RX12 92 rfl rfl) (congrArg Prod.fst (F.1 125 (12, 92) rfl rfl)) rfl ?_
  refine x_iloadn (x := a2) rfl rfl ?_
  refine x_inst (N := m_X12_isDay) (As := [.int a2]) (st := []) (d' := 99) (mc := 0) (ms := 0) (host := "") rfl t_X12_isDay ⟨Or.inl q_12_273, s_X12_isDay⟩ rfl (by decide) rfl rfl ⟨by decide, by decide⟩ (c_X12_isDay (x := a2) ?_)
  show jX m_X12_appeal 100 0 0 9 [(0, .ref 125), (1, .int a1), (2, .int a2), (3, .int a3)] [.int (jp (0 ≤ a2.toInt ∧ a2.toInt ≤ 146399))] _ 0 0 _
  refine x_ifeq (tgt := 19) rfl rfl (jpe ⟨fun c1 => ?_, fun c1 => ?_⟩)
  ·
    refine x_aloadn (x := 125) rfl rfl ?_
    refine x_iconst (v := (-1)) rfl ki_m1 ?_
    refine x_inv (N := m_X12_told) (As := [.int (-1)]) (b := 125) (st := []) (d' := 99) (mc := 0) (ms := 0) (host := "") 12 rfl t_X12_told ⟨Or.inl q_12_197, i_X12_told.1, i_X12_told.2⟩ ⟨by decide, rfl⟩ (congrArg Prod.fst (sh_si (F.1 125 (12, 92) rfl rfl))) rfl (by decide) rfl rfl ⟨by decide, by decide⟩ (jC.of rfl k_X12_told rfl ?_)
    show jX m_X12_told 99 0 0 0 [(0, .ref 125), (1, .int (-1))] [] _ 0 0 _
    refine x_aloadn (x := 125) rfl rfl ?_
    refine x_iloadn (x := (-1)) rfl rfl ?_
    refine x_ifge (tgt := 9) rfl rfl (br_f (by decide) ?_)
    refine x_iloadn (x := (-1)) rfl rfl ?_
    refine x_goto (tgt := 10) rfl rfl ?_
    refine x_putI 12 1 rfl f_12_183 rfl (jfin_no TX12 RX12 92 rfl rfl) (congrArg Prod.fst (sh_si (F.1 125 (12, 92) rfl rfl))) rfl ?_
    refine x_iloadn (x := (-1)) rfl rfl ?_
    refine x_iret rfl rfl ?_
    show jX m_X12_appeal 100 0 0 24 [(0, .ref 125), (1, .int a1), (2, .int a2), (3, .int a3)] [.int (-1)] _ 0 0 _
    refine x_iret rfl rfl ?_
    exact jqe (show sp_appeal a1 a2 a3 = (-1) by unfold sp_appeal; (repeat' split) <;> first | rfl | (exfalso; omega)) (hQ _ (jOl_si rfl (jOl_si rfl O)))
  ·
    refine x_iloadn (x := a3) rfl rfl ?_
    refine x_inst (N := m_X12_isDay) (As := [.int a3]) (st := []) (d' := 99) (mc := 0) (ms := 0) (host := "") rfl t_X12_isDay ⟨Or.inl q_12_273, s_X12_isDay⟩ rfl (by decide) rfl rfl ⟨by decide, by decide⟩ (c_X12_isDay (x := a3) ?_)
    show jX m_X12_appeal 100 0 0 16 [(0, .ref 125), (1, .int a1), (2, .int a2), (3, .int a3)] [.int (jp (0 ≤ a3.toInt ∧ a3.toInt ≤ 146399))] _ 0 0 _
    refine x_ifne (tgt := 25) rfl rfl (jpn ⟨fun c2 => ?_, fun c2 => ?_⟩)
    ·
      refine x_aloadn (x := 125) rfl rfl ?_
      refine x_iloadn (x := a1) rfl rfl ?_
      refine x_inv (N := m_X12_isLine) (As := [.int a1]) (b := 125) (st := []) (d' := 99) (mc := 0) (ms := 0) (host := "") 12 rfl t_X12_isLine ⟨Or.inl q_12_293, i_X12_isLine.1, i_X12_isLine.2⟩ ⟨by decide, rfl⟩ (congrArg Prod.fst (sh_si (F.1 125 (12, 92) rfl rfl))) rfl (by decide) rfl rfl ⟨by decide, by decide⟩ (jC.of rfl k_X12_isLine rfl ?_)
      show jX m_X12_isLine 99 0 0 0 [(0, .ref 125), (1, .int a1)] [] _ 0 0 _
      refine x_iloadn (x := a1) rfl rfl ?_
      refine x_i2l rfl ?_
      refine x_lconst (v := 0) rfl kl_0 ?_
      refine x_aloadn (x := 125) rfl rfl ?_
      refine x_getR (b := 126) 12 2 rfl f_12_8 rfl (congrArg Prod.fst (sh_si (F.1 125 (12, 92) rfl rfl))) (rv_si (F.2.1 16002 126 rfl rfl)) ?_
      refine x_iconst (v := 0) rfl ki_0 ?_
      refine y_iald (v := 0) (N := 50660) 0 rfl (sh_si (F.1 126 (100, 50660) rfl rfl)) (jinb_of (by decide)) (by decide) (iv_si rfl (F.2.2.2.1 126 rfl rfl 0).1) ?_
      refine y_i2l (v := 0) rfl (by decide) ?_
      refine x_lconst (v := 1) rfl kl_1 ?_
      refine y_lsub (v := (-1)) rfl (by decide) ?_
      refine x_inst (N := m_X12_in) (As := [.long (a1.toInt64), .long 0, .long (-1)]) (st := []) (d' := 98) (mc := 0) (ms := 0) (host := "") rfl t_X12_in ⟨Or.inl q_12_188, s_X12_in⟩ rfl (by decide) rfl rfl ⟨by decide, by decide⟩ (c_X12_in (m := a1.toInt) (a := 0) (b := (-1)) (jt_l _) (by decide) (by decide) ?_)
      show jX m_X12_isLine 99 0 0 15 [(0, .ref 125), (1, .int a1)] [.int (jp (0 ≤ a1.toInt ∧ a1.toInt ≤ (-1)))] _ 0 0 _
      refine x_zret rfl rfl (by first | decide | exact jp_01 _) ?_
      show jX m_X12_appeal 100 0 0 30 [(0, .ref 125), (1, .int a1), (2, .int a2), (3, .int a3)] [.int (jp (0 ≤ a1.toInt ∧ a1.toInt ≤ (-1)))] _ 0 0 _
      refine x_ifeq (tgt := 42) rfl rfl (jpe ⟨fun c3 => ?_, fun c3 => ?_⟩)
      ·
        refine x_aloadn (x := 125) rfl rfl ?_
        refine x_bipush (v := (-2)) rfl kb_m2 ?_
        refine x_inv (N := m_X12_told) (As := [.int (-2)]) (b := 125) (st := []) (d' := 99) (mc := 0) (ms := 0) (host := "") 12 rfl t_X12_told ⟨Or.inl q_12_197, i_X12_told.1, i_X12_told.2⟩ ⟨by decide, rfl⟩ (congrArg Prod.fst (sh_si (F.1 125 (12, 92) rfl rfl))) rfl (by decide) rfl rfl ⟨by decide, by decide⟩ (jC.of rfl k_X12_told rfl ?_)
        show jX m_X12_told 99 0 0 0 [(0, .ref 125), (1, .int (-2))] [] _ 0 0 _
        refine x_aloadn (x := 125) rfl rfl ?_
        refine x_iloadn (x := (-2)) rfl rfl ?_
        refine x_ifge (tgt := 9) rfl rfl (br_f (by decide) ?_)
        refine x_iloadn (x := (-2)) rfl rfl ?_
        refine x_goto (tgt := 10) rfl rfl ?_
        refine x_putI 12 1 rfl f_12_183 rfl (jfin_no TX12 RX12 92 rfl rfl) (congrArg Prod.fst (sh_si (F.1 125 (12, 92) rfl rfl))) rfl ?_
        refine x_iloadn (x := (-2)) rfl rfl ?_
        refine x_iret rfl rfl ?_
        show jX m_X12_appeal 100 0 0 48 [(0, .ref 125), (1, .int a1), (2, .int a2), (3, .int a3)] [.int (-2)] _ 0 0 _
        refine x_iret rfl rfl ?_
        exact jqe (show sp_appeal a1 a2 a3 = (-2) by unfold sp_appeal; (repeat' split) <;> first | rfl | (exfalso; omega)) (hQ _ (jOl_si rfl (jOl_si rfl O)))
      ·
        exfalso
        omega
    ·
      refine x_aloadn (x := 125) rfl rfl ?_
      refine x_iconst (v := (-1)) rfl ki_m1 ?_
      refine x_inv (N := m_X12_told) (As := [.int (-1)]) (b := 125) (st := []) (d' := 99) (mc := 0) (ms := 0) (host := "") 12 rfl t_X12_told ⟨Or.inl q_12_197, i_X12_told.1, i_X12_told.2⟩ ⟨by decide, rfl⟩ (congrArg Prod.fst (sh_si (F.1 125 (12, 92) rfl rfl))) rfl (by decide) rfl rfl ⟨by decide, by decide⟩ (jC.of rfl k_X12_told rfl ?_)
      show jX m_X12_told 99 0 0 0 [(0, .ref 125), (1, .int (-1))] [] _ 0 0 _
      refine x_aloadn (x := 125) rfl rfl ?_
      refine x_iloadn (x := (-1)) rfl rfl ?_
      refine x_ifge (tgt := 9) rfl rfl (br_f (by decide) ?_)
      refine x_iloadn (x := (-1)) rfl rfl ?_
      refine x_goto (tgt := 10) rfl rfl ?_
      refine x_putI 12 1 rfl f_12_183 rfl (jfin_no TX12 RX12 92 rfl rfl) (congrArg Prod.fst (sh_si (F.1 125 (12, 92) rfl rfl))) rfl ?_
      refine x_iloadn (x := (-1)) rfl rfl ?_
      refine x_iret rfl rfl ?_
      show jX m_X12_appeal 100 0 0 24 [(0, .ref 125), (1, .int a1), (2, .int a2), (3, .int a3)] [.int (-1)] _ 0 0 _
      refine x_iret rfl rfl ?_
      exact jqe (show sp_appeal a1 a2 a3 = (-1) by unfold sp_appeal; (repeat' split) <;> first | rfl | (exfalso; omega)) (hQ _ (jOl_si rfl (jOl_si rfl O)))
def sp_holding : Int32 := 0
set_option maxRecDepth 100000 in
set_option maxHeartbeats 40000000 in
theorem px_holding {xs : Nat → Int32} {h : jH} {Q : Option Value → jH → Prop} (F : jFb 31 h) (O : jOl 7 xs h) (hQ : ∀ h', jFb 125 h' → jOl 7 xs h' → Q (some (.int (sp_holding))) h') : jC m_X11_holding 100 0 0 [.ref 31] h Q := by
  have FM := jFb_up 125 rfl F
  refine jC.of rfl k_X11_holding rfl ?_
  show jX m_X11_holding 100 0 0 0 [(0, .ref 31)] [] _ 0 0 _
  refine x_aloadn (x := 31) rfl rfl ?_
  refine x_getR (b := 32) 11 0 rfl f_11_10 rfl (congrArg Prod.fst (F.1 31 (11, 13) rfl rfl)) (F.2.1 3968 32 rfl rfl) ?_
  refine x_getR (b := 49) 1 8 rfl f_11_408 rfl (congrArg Prod.fst (F.1 32 (1, 20) rfl rfl)) (F.2.1 4104 49 rfl rfl) ?_
  refine x_inv (N := m_X8_isFull) (As := []) (b := 49) (st := []) (d' := 99) (mc := 0) (ms := 0) (host := "") 8 rfl t_X8_isFull ⟨Or.inl q_11_130, i_X8_isFull.1, i_X8_isFull.2⟩ ⟨by decide, rfl⟩ (congrArg Prod.fst (F.1 49 (8, 4) rfl rfl)) rfl (by decide) rfl rfl ⟨by decide, by decide⟩ (jC.of rfl k_X8_isFull rfl ?_)
  show jX m_X8_isFull 99 0 0 0 [(0, .ref 49)] [] _ 0 0 _
  refine x_aloadn (x := 49) rfl rfl ?_
  refine y_getI (v := 0) 8 3 rfl f_8_7 rfl (congrArg Prod.fst (F.1 49 (8, 4) rfl rfl)) (F.2.2.1 6275 0 rfl rfl) ?_
  refine x_aloadn (x := 49) rfl rfl ?_
  refine y_getI (v := 40) 8 1 rfl f_8_22 rfl (congrArg Prod.fst (F.1 49 (8, 4) rfl rfl)) (F.2.2.1 6273 40 rfl rfl) ?_
  refine x_iclt (tgt := 15) rfl rfl (br_t (by decide) ?_)
  refine x_iconst (v := 0) rfl ki_0 ?_
  refine x_zret rfl rfl (by first | decide | exact jp_01 _) ?_
  show jX m_X11_holding 100 0 0 10 [(0, .ref 31)] [.int 0] _ 0 0 _
  refine x_ifeq (tgt := 20) rfl rfl (br_t (by decide) ?_)
  refine x_aloadn (x := 31) rfl rfl ?_
  refine x_aloadn (x := 31) rfl rfl ?_
  refine x_iconst (v := (-1)) rfl ki_m1 ?_
  refine x_iconst (v := 0) rfl ki_0 ?_
  refine x_iconst (v := 0) rfl ki_0 ?_
  refine x_iconst (v := 0) rfl ki_0 ?_
  refine x_iconst (v := 0) rfl ki_0 ?_
  refine x_inv (N := m_X11_addHolding) (As := [.int (-1), .int 0, .int 0, .int 0, .int 0]) (b := 31) (st := [.ref 31]) (d' := 99) (mc := 0) (ms := 0) (host := "") 11 rfl t_X11_addHolding ⟨Or.inl q_11_411, i_X11_addHolding.1, i_X11_addHolding.2⟩ ⟨by decide, rfl⟩ (congrArg Prod.fst (F.1 31 (11, 13) rfl rfl)) rfl (by decide) rfl rfl ⟨by decide, by decide⟩ (jC.of rfl k_X11_addHolding rfl ?_)
  show jX m_X11_addHolding 99 0 0 0 [(0, .ref 31), (1, .int (-1)), (2, .int 0), (3, .int 0), (4, .int 0), (5, .int 0)] [] _ 0 0 _
  refine x_aloadn (x := 31) rfl rfl ?_
  refine x_getR (b := 32) 11 0 rfl f_11_10 rfl (congrArg Prod.fst (F.1 31 (11, 13) rfl rfl)) (F.2.1 3968 32 rfl rfl) ?_
  refine x_getR (b := 49) 1 8 rfl f_11_408 rfl (congrArg Prod.fst (F.1 32 (1, 20) rfl rfl)) (F.2.1 4104 49 rfl rfl) ?_
  refine y_getI (v := 0) 8 3 rfl f_11_142 rfl (congrArg Prod.fst (F.1 49 (8, 4) rfl rfl)) (F.2.2.1 6275 0 rfl rfl) ?_
  refine x_istore (ls' := [(6, .int 0), (0, .ref 31), (1, .int (-1)), (2, .int 0), (3, .int 0), (4, .int 0), (5, .int 0)]) rfl rfl rfl ?_
  refine x_aloadn (x := 31) rfl rfl ?_
  refine x_getR (b := 32) 11 0 rfl f_11_10 rfl (congrArg Prod.fst (F.1 31 (11, 13) rfl rfl)) (F.2.1 3968 32 rfl rfl) ?_
  refine x_getR (b := 49) 1 8 rfl f_11_408 rfl (congrArg Prod.fst (F.1 32 (1, 20) rfl rfl)) (F.2.1 4104 49 rfl rfl) ?_
  refine x_iload (x := 0) rfl rfl ?_
  refine x_iload (x := 0) rfl rfl ?_
  refine x_iloadn (x := (-1)) rfl rfl ?_
  refine x_iloadn (x := 0) rfl rfl ?_
  refine x_iloadn (x := 0) rfl rfl ?_
  refine x_iconst (v := 0) rfl ki_0 ?_
  refine x_inv (N := m_X8_add) (As := [.int 0, .int 0, .int (-1), .int 0, .int 0, .int 0]) (b := 49) (st := []) (d' := 98) (mc := 0) (ms := 0) (host := "") 8 rfl t_X8_add ⟨Or.inl q_11_145, i_X8_add.1, i_X8_add.2⟩ ⟨by decide, rfl⟩ (congrArg Prod.fst (F.1 49 (8, 4) rfl rfl)) rfl (by decide) rfl rfl ⟨by decide, by decide⟩ (jC.of rfl k_X8_add rfl ?_)
  show jX m_X8_add 98 0 0 0 [(0, .ref 49), (1, .int 0), (2, .int 0), (3, .int (-1)), (4, .int 0), (5, .int 0), (6, .int 0)] [] _ 0 0 _
  refine x_aloadn (x := 49) rfl rfl ?_
  refine y_getI (v := 0) 8 3 rfl f_8_7 rfl (congrArg Prod.fst (F.1 49 (8, 4) rfl rfl)) (F.2.2.1 6275 0 rfl rfl) ?_
  refine x_aloadn (x := 49) rfl rfl ?_
  refine y_getI (v := 40) 8 1 rfl f_8_22 rfl (congrArg Prod.fst (F.1 49 (8, 4) rfl rfl)) (F.2.2.1 6273 40 rfl rfl) ?_
  refine x_iclt (tgt := 12) rfl rfl (br_t (by decide) ?_)
  refine x_aloadn (x := 49) rfl rfl ?_
  refine y_getI (v := 0) 8 3 rfl f_8_7 rfl (congrArg Prod.fst (F.1 49 (8, 4) rfl rfl)) (F.2.2.1 6275 0 rfl rfl) ?_
  refine x_istore (ls' := [(7, .int 0), (0, .ref 49), (1, .int 0), (2, .int 0), (3, .int (-1)), (4, .int 0), (5, .int 0), (6, .int 0)]) rfl rfl rfl ?_
  refine x_aloadn (x := 49) rfl rfl ?_
  refine x_iload (x := 0) rfl rfl ?_
  refine x_iconst (v := 1) rfl ki_1 ?_
  refine y_iadd (v := 1) rfl (by decide) ?_
  refine x_putI 8 3 rfl f_8_7 rfl (jfin_no TX8 RX8 4 rfl rfl) (congrArg Prod.fst (F.1 49 (8, 4) rfl rfl)) rfl ?_
  refine x_aloadn (x := 49) rfl rfl ?_
  refine x_iload (x := 0) rfl rfl ?_
  refine x_iconst (v := 0) rfl ki_0 ?_
  refine x_iloadn (x := 0) rfl rfl ?_
  refine x_inv (N := m_X8_put) (As := [.int 0, .int 0, .int 0]) (b := 49) (st := []) (d' := 97) (mc := 0) (ms := 0) (host := "") 8 rfl t_X8_put ⟨Or.inl q_8_29, i_X8_put.1, i_X8_put.2⟩ ⟨by decide, rfl⟩ (congrArg Prod.fst (sh_si (F.1 49 (8, 4) rfl rfl))) rfl (by decide) rfl rfl ⟨by decide, by decide⟩ (jC.of rfl k_X8_put rfl ?_)
  show jX m_X8_put 97 0 0 0 [(0, .ref 49), (1, .int 0), (2, .int 0), (3, .int 0)] [] _ 0 0 _
  refine x_iloadn (x := 0) rfl rfl ?_
  refine x_iflt (tgt := 38) rfl rfl (br_f (by decide) ?_)
  refine x_iloadn (x := 0) rfl rfl ?_
  refine x_aloadn (x := 49) rfl rfl ?_
  refine y_getI (v := 1) 8 3 rfl f_8_7 rfl (congrArg Prod.fst (sh_si (F.1 49 (8, 4) rfl rfl))) iv_eq ?_
  refine x_icge (tgt := 38) rfl rfl (br_f (by decide) ?_)
  refine x_iloadn (x := 0) rfl rfl ?_
  refine x_iflt (tgt := 38) rfl rfl (br_f (by decide) ?_)
  refine x_iloadn (x := 0) rfl rfl ?_
  refine x_aloadn (x := 49) rfl rfl ?_
  refine y_getI (v := 5) 8 0 rfl f_8_19 rfl (congrArg Prod.fst (sh_si (F.1 49 (8, 4) rfl rfl))) (iv_si rfl (F.2.2.1 6272 5 rfl rfl)) ?_
  refine x_icge (tgt := 38) rfl rfl (br_f (by decide) ?_)
  refine x_aloadn (x := 49) rfl rfl ?_
  refine x_getR (b := 50) 8 2 rfl f_8_25 rfl (congrArg Prod.fst (sh_si (F.1 49 (8, 4) rfl rfl))) (rv_si (F.2.1 6274 50 rfl rfl)) ?_
  refine x_iloadn (x := 0) rfl rfl ?_
  refine x_aloadn (x := 49) rfl rfl ?_
  refine y_getI (v := 5) 8 0 rfl f_8_19 rfl (congrArg Prod.fst (sh_si (F.1 49 (8, 4) rfl rfl))) (iv_si rfl (F.2.2.1 6272 5 rfl rfl)) ?_
  refine y_imul (v := 0) rfl (by decide) ?_
  refine x_iloadn (x := 0) rfl rfl ?_
  refine y_iadd (v := 0) rfl (by decide) ?_
  refine x_iloadn (x := 0) rfl rfl ?_
  refine y_iast (N := 200) 0 rfl (sh_si (F.1 50 (100, 200) rfl rfl)) rfl (jinb_of (by decide)) (by decide) ?_
  refine x_vret rfl rfl ?_
  show jX m_X8_add 98 0 0 34 [(7, .int 0), (0, .ref 49), (1, .int 0), (2, .int 0), (3, .int (-1)), (4, .int 0), (5, .int 0), (6, .int 0)] [] _ 0 0 _
  refine x_aloadn (x := 49) rfl rfl ?_
  refine x_iload (x := 0) rfl rfl ?_
  refine x_iconst (v := 1) rfl ki_1 ?_
  refine x_iloadn (x := 0) rfl rfl ?_
  refine x_inv (N := m_X8_put) (As := [.int 0, .int 1, .int 0]) (b := 49) (st := []) (d' := 97) (mc := 0) (ms := 0) (host := "") 8 rfl t_X8_put ⟨Or.inl q_8_29, i_X8_put.1, i_X8_put.2⟩ ⟨by decide, rfl⟩ (congrArg Prod.fst (sh_si (sh_si (F.1 49 (8, 4) rfl rfl)))) rfl (by decide) rfl rfl ⟨by decide, by decide⟩ (jC.of rfl k_X8_put rfl ?_)
  show jX m_X8_put 97 0 0 0 [(0, .ref 49), (1, .int 0), (2, .int 1), (3, .int 0)] [] _ 0 0 _
  refine x_iloadn (x := 0) rfl rfl ?_
  refine x_iflt (tgt := 38) rfl rfl (br_f (by decide) ?_)
  refine x_iloadn (x := 0) rfl rfl ?_
  refine x_aloadn (x := 49) rfl rfl ?_
  refine y_getI (v := 1) 8 3 rfl f_8_7 rfl (congrArg Prod.fst (sh_si (sh_si (F.1 49 (8, 4) rfl rfl)))) (iv_si rfl iv_eq) ?_
  refine x_icge (tgt := 38) rfl rfl (br_f (by decide) ?_)
  refine x_iloadn (x := 1) rfl rfl ?_
  refine x_iflt (tgt := 38) rfl rfl (br_f (by decide) ?_)
  refine x_iloadn (x := 1) rfl rfl ?_
  refine x_aloadn (x := 49) rfl rfl ?_
  refine y_getI (v := 5) 8 0 rfl f_8_19 rfl (congrArg Prod.fst (sh_si (sh_si (F.1 49 (8, 4) rfl rfl)))) (iv_si rfl (iv_si rfl (F.2.2.1 6272 5 rfl rfl))) ?_
  refine x_icge (tgt := 38) rfl rfl (br_f (by decide) ?_)
  refine x_aloadn (x := 49) rfl rfl ?_
  refine x_getR (b := 50) 8 2 rfl f_8_25 rfl (congrArg Prod.fst (sh_si (sh_si (F.1 49 (8, 4) rfl rfl)))) (rv_si (rv_si (F.2.1 6274 50 rfl rfl))) ?_
  refine x_iloadn (x := 0) rfl rfl ?_
  refine x_aloadn (x := 49) rfl rfl ?_
  refine y_getI (v := 5) 8 0 rfl f_8_19 rfl (congrArg Prod.fst (sh_si (sh_si (F.1 49 (8, 4) rfl rfl)))) (iv_si rfl (iv_si rfl (F.2.2.1 6272 5 rfl rfl))) ?_
  refine y_imul (v := 0) rfl (by decide) ?_
  refine x_iloadn (x := 1) rfl rfl ?_
  refine y_iadd (v := 1) rfl (by decide) ?_
  refine x_iloadn (x := 0) rfl rfl ?_
  refine y_iast (N := 200) 1 rfl (sh_si (sh_si (F.1 50 (100, 200) rfl rfl))) rfl (jinb_of (by decide)) (by decide) ?_
  refine x_vret rfl rfl ?_
  show jX m_X8_add 98 0 0 42 [(7, .int 0), (0, .ref 49), (1, .int 0), (2, .int 0), (3, .int (-1)), (4, .int 0), (5, .int 0), (6, .int 0)] [] _ 0 0 _
  refine x_aloadn (x := 49) rfl rfl ?_
  refine x_iload (x := 0) rfl rfl ?_
  refine x_iconst (v := 2) rfl ki_2 ?_
  refine x_iloadn (x := (-1)) rfl rfl ?_
  refine x_inv (N := m_X8_put) (As := [.int 0, .int 2, .int (-1)]) (b := 49) (st := []) (d' := 97) (mc := 0) (ms := 0) (host := "") 8 rfl t_X8_put ⟨Or.inl q_8_29, i_X8_put.1, i_X8_put.2⟩ ⟨by decide, rfl⟩ (congrArg Prod.fst (sh_si (sh_si (sh_si (F.1 49 (8, 4) rfl rfl))))) rfl (by decide) rfl rfl ⟨by decide, by decide⟩ (jC.of rfl k_X8_put rfl ?_)
  show jX m_X8_put 97 0 0 0 [(0, .ref 49), (1, .int 0), (2, .int 2), (3, .int (-1))] [] _ 0 0 _
  refine x_iloadn (x := 0) rfl rfl ?_
  refine x_iflt (tgt := 38) rfl rfl (br_f (by decide) ?_)
  refine x_iloadn (x := 0) rfl rfl ?_
  refine x_aloadn (x := 49) rfl rfl ?_
  refine y_getI (v := 1) 8 3 rfl f_8_7 rfl (congrArg Prod.fst (sh_si (sh_si (sh_si (F.1 49 (8, 4) rfl rfl))))) (iv_si rfl (iv_si rfl iv_eq)) ?_
  refine x_icge (tgt := 38) rfl rfl (br_f (by decide) ?_)
  refine x_iloadn (x := 2) rfl rfl ?_
  refine x_iflt (tgt := 38) rfl rfl (br_f (by decide) ?_)
  refine x_iloadn (x := 2) rfl rfl ?_
  refine x_aloadn (x := 49) rfl rfl ?_
  refine y_getI (v := 5) 8 0 rfl f_8_19 rfl (congrArg Prod.fst (sh_si (sh_si (sh_si (F.1 49 (8, 4) rfl rfl))))) (iv_si rfl (iv_si rfl (iv_si rfl (F.2.2.1 6272 5 rfl rfl)))) ?_
  refine x_icge (tgt := 38) rfl rfl (br_f (by decide) ?_)
  refine x_aloadn (x := 49) rfl rfl ?_
  refine x_getR (b := 50) 8 2 rfl f_8_25 rfl (congrArg Prod.fst (sh_si (sh_si (sh_si (F.1 49 (8, 4) rfl rfl))))) (rv_si (rv_si (rv_si (F.2.1 6274 50 rfl rfl)))) ?_
  refine x_iloadn (x := 0) rfl rfl ?_
  refine x_aloadn (x := 49) rfl rfl ?_
  refine y_getI (v := 5) 8 0 rfl f_8_19 rfl (congrArg Prod.fst (sh_si (sh_si (sh_si (F.1 49 (8, 4) rfl rfl))))) (iv_si rfl (iv_si rfl (iv_si rfl (F.2.2.1 6272 5 rfl rfl)))) ?_
  refine y_imul (v := 0) rfl (by decide) ?_
  refine x_iloadn (x := 2) rfl rfl ?_
  refine y_iadd (v := 2) rfl (by decide) ?_
  refine x_iloadn (x := (-1)) rfl rfl ?_
  refine y_iast (N := 200) 2 rfl (sh_si (sh_si (sh_si (F.1 50 (100, 200) rfl rfl)))) rfl (jinb_of (by decide)) (by decide) ?_
  refine x_vret rfl rfl ?_
  show jX m_X8_add 98 0 0 50 [(7, .int 0), (0, .ref 49), (1, .int 0), (2, .int 0), (3, .int (-1)), (4, .int 0), (5, .int 0), (6, .int 0)] [] _ 0 0 _
  refine x_aloadn (x := 49) rfl rfl ?_
  refine x_iload (x := 0) rfl rfl ?_
  refine x_iconst (v := 3) rfl ki_3 ?_
  refine x_iload (x := 0) rfl rfl ?_
  refine x_inv (N := m_X8_put) (As := [.int 0, .int 3, .int 0]) (b := 49) (st := []) (d' := 97) (mc := 0) (ms := 0) (host := "") 8 rfl t_X8_put ⟨Or.inl q_8_29, i_X8_put.1, i_X8_put.2⟩ ⟨by decide, rfl⟩ (congrArg Prod.fst (sh_si (sh_si (sh_si (sh_si (F.1 49 (8, 4) rfl rfl)))))) rfl (by decide) rfl rfl ⟨by decide, by decide⟩ (jC.of rfl k_X8_put rfl ?_)
  show jX m_X8_put 97 0 0 0 [(0, .ref 49), (1, .int 0), (2, .int 3), (3, .int 0)] [] _ 0 0 _
  refine x_iloadn (x := 0) rfl rfl ?_
  refine x_iflt (tgt := 38) rfl rfl (br_f (by decide) ?_)
  refine x_iloadn (x := 0) rfl rfl ?_
  refine x_aloadn (x := 49) rfl rfl ?_
  refine y_getI (v := 1) 8 3 rfl f_8_7 rfl (congrArg Prod.fst (sh_si (sh_si (sh_si (sh_si (F.1 49 (8, 4) rfl rfl)))))) (iv_si rfl (iv_si rfl (iv_si rfl iv_eq))) ?_
  refine x_icge (tgt := 38) rfl rfl (br_f (by decide) ?_)
  refine x_iloadn (x := 3) rfl rfl ?_
  refine x_iflt (tgt := 38) rfl rfl (br_f (by decide) ?_)
  refine x_iloadn (x := 3) rfl rfl ?_
  refine x_aloadn (x := 49) rfl rfl ?_
  refine y_getI (v := 5) 8 0 rfl f_8_19 rfl (congrArg Prod.fst (sh_si (sh_si (sh_si (sh_si (F.1 49 (8, 4) rfl rfl)))))) (iv_si rfl (iv_si rfl (iv_si rfl (iv_si rfl (F.2.2.1 6272 5 rfl rfl))))) ?_
  refine x_icge (tgt := 38) rfl rfl (br_f (by decide) ?_)
  refine x_aloadn (x := 49) rfl rfl ?_
  refine x_getR (b := 50) 8 2 rfl f_8_25 rfl (congrArg Prod.fst (sh_si (sh_si (sh_si (sh_si (F.1 49 (8, 4) rfl rfl)))))) (rv_si (rv_si (rv_si (rv_si (F.2.1 6274 50 rfl rfl))))) ?_
  refine x_iloadn (x := 0) rfl rfl ?_
  refine x_aloadn (x := 49) rfl rfl ?_
  refine y_getI (v := 5) 8 0 rfl f_8_19 rfl (congrArg Prod.fst (sh_si (sh_si (sh_si (sh_si (F.1 49 (8, 4) rfl rfl)))))) (iv_si rfl (iv_si rfl (iv_si rfl (iv_si rfl (F.2.2.1 6272 5 rfl rfl))))) ?_
  refine y_imul (v := 0) rfl (by decide) ?_
  refine x_iloadn (x := 3) rfl rfl ?_
  refine y_iadd (v := 3) rfl (by decide) ?_
  refine x_iloadn (x := 0) rfl rfl ?_
  refine y_iast (N := 200) 3 rfl (sh_si (sh_si (sh_si (sh_si (F.1 50 (100, 200) rfl rfl))))) rfl (jinb_of (by decide)) (by decide) ?_
  refine x_vret rfl rfl ?_
  show jX m_X8_add 98 0 0 59 [(7, .int 0), (0, .ref 49), (1, .int 0), (2, .int 0), (3, .int (-1)), (4, .int 0), (5, .int 0), (6, .int 0)] [] _ 0 0 _
  refine x_aloadn (x := 49) rfl rfl ?_
  refine x_iload (x := 0) rfl rfl ?_
  refine x_iconst (v := 4) rfl ki_4 ?_
  refine x_iload (x := 0) rfl rfl ?_
  refine x_inv (N := m_X8_put) (As := [.int 0, .int 4, .int 0]) (b := 49) (st := []) (d' := 97) (mc := 0) (ms := 0) (host := "") 8 rfl t_X8_put ⟨Or.inl q_8_29, i_X8_put.1, i_X8_put.2⟩ ⟨by decide, rfl⟩ (congrArg Prod.fst (sh_si (sh_si (sh_si (sh_si (sh_si (F.1 49 (8, 4) rfl rfl))))))) rfl (by decide) rfl rfl ⟨by decide, by decide⟩ (jC.of rfl k_X8_put rfl ?_)
  show jX m_X8_put 97 0 0 0 [(0, .ref 49), (1, .int 0), (2, .int 4), (3, .int 0)] [] _ 0 0 _
  refine x_iloadn (x := 0) rfl rfl ?_
  refine x_iflt (tgt := 38) rfl rfl (br_f (by decide) ?_)
  refine x_iloadn (x := 0) rfl rfl ?_
  refine x_aloadn (x := 49) rfl rfl ?_
  refine y_getI (v := 1) 8 3 rfl f_8_7 rfl (congrArg Prod.fst (sh_si (sh_si (sh_si (sh_si (sh_si (F.1 49 (8, 4) rfl rfl))))))) (iv_si rfl (iv_si rfl (iv_si rfl (iv_si rfl iv_eq)))) ?_
  refine x_icge (tgt := 38) rfl rfl (br_f (by decide) ?_)
  refine x_iloadn (x := 4) rfl rfl ?_
  refine x_iflt (tgt := 38) rfl rfl (br_f (by decide) ?_)
  refine x_iloadn (x := 4) rfl rfl ?_
  refine x_aloadn (x := 49) rfl rfl ?_
  refine y_getI (v := 5) 8 0 rfl f_8_19 rfl (congrArg Prod.fst (sh_si (sh_si (sh_si (sh_si (sh_si (F.1 49 (8, 4) rfl rfl))))))) (iv_si rfl (iv_si rfl (iv_si rfl (iv_si rfl (iv_si rfl (F.2.2.1 6272 5 rfl rfl)))))) ?_
  refine x_icge (tgt := 38) rfl rfl (br_f (by decide) ?_)
  refine x_aloadn (x := 49) rfl rfl ?_
  refine x_getR (b := 50) 8 2 rfl f_8_25 rfl (congrArg Prod.fst (sh_si (sh_si (sh_si (sh_si (sh_si (F.1 49 (8, 4) rfl rfl))))))) (rv_si (rv_si (rv_si (rv_si (rv_si (F.2.1 6274 50 rfl rfl)))))) ?_
  refine x_iloadn (x := 0) rfl rfl ?_
  refine x_aloadn (x := 49) rfl rfl ?_
  refine y_getI (v := 5) 8 0 rfl f_8_19 rfl (congrArg Prod.fst (sh_si (sh_si (sh_si (sh_si (sh_si (F.1 49 (8, 4) rfl rfl))))))) (iv_si rfl (iv_si rfl (iv_si rfl (iv_si rfl (iv_si rfl (F.2.2.1 6272 5 rfl rfl)))))) ?_
  refine y_imul (v := 0) rfl (by decide) ?_
  refine x_iloadn (x := 4) rfl rfl ?_
  refine y_iadd (v := 4) rfl (by decide) ?_
  refine x_iloadn (x := 0) rfl rfl ?_
  refine y_iast (N := 200) 4 rfl (sh_si (sh_si (sh_si (sh_si (sh_si (F.1 50 (100, 200) rfl rfl)))))) rfl (jinb_of (by decide)) (by decide) ?_
  refine x_vret rfl rfl ?_
  show jX m_X8_add 98 0 0 68 [(7, .int 0), (0, .ref 49), (1, .int 0), (2, .int 0), (3, .int (-1)), (4, .int 0), (5, .int 0), (6, .int 0)] [] _ 0 0 _
  refine x_aloadn (x := 49) rfl rfl ?_
  refine x_iload (x := 0) rfl rfl ?_
  refine x_iconst (v := 5) rfl ki_5 ?_
  refine x_iload (x := 0) rfl rfl ?_
  refine x_inv (N := m_X8_put) (As := [.int 0, .int 5, .int 0]) (b := 49) (st := []) (d' := 97) (mc := 0) (ms := 0) (host := "") 8 rfl t_X8_put ⟨Or.inl q_8_29, i_X8_put.1, i_X8_put.2⟩ ⟨by decide, rfl⟩ (congrArg Prod.fst (sh_si (sh_si (sh_si (sh_si (sh_si (sh_si (F.1 49 (8, 4) rfl rfl)))))))) rfl (by decide) rfl rfl ⟨by decide, by decide⟩ (jC.of rfl k_X8_put rfl ?_)
  show jX m_X8_put 97 0 0 0 [(0, .ref 49), (1, .int 0), (2, .int 5), (3, .int 0)] [] _ 0 0 _
  refine x_iloadn (x := 0) rfl rfl ?_
  refine x_iflt (tgt := 38) rfl rfl (br_f (by decide) ?_)
  refine x_iloadn (x := 0) rfl rfl ?_
  refine x_aloadn (x := 49) rfl rfl ?_
  refine y_getI (v := 1) 8 3 rfl f_8_7 rfl (congrArg Prod.fst (sh_si (sh_si (sh_si (sh_si (sh_si (sh_si (F.1 49 (8, 4) rfl rfl)))))))) (iv_si rfl (iv_si rfl (iv_si rfl (iv_si rfl (iv_si rfl iv_eq))))) ?_
  refine x_icge (tgt := 38) rfl rfl (br_f (by decide) ?_)
  refine x_iloadn (x := 5) rfl rfl ?_
  refine x_iflt (tgt := 38) rfl rfl (br_f (by decide) ?_)
  refine x_iloadn (x := 5) rfl rfl ?_
  refine x_aloadn (x := 49) rfl rfl ?_
  refine y_getI (v := 5) 8 0 rfl f_8_19 rfl (congrArg Prod.fst (sh_si (sh_si (sh_si (sh_si (sh_si (sh_si (F.1 49 (8, 4) rfl rfl)))))))) (iv_si rfl (iv_si rfl (iv_si rfl (iv_si rfl (iv_si rfl (iv_si rfl (F.2.2.1 6272 5 rfl rfl))))))) ?_
  refine x_icge (tgt := 38) rfl rfl (br_t (by decide) ?_)
  refine x_vret rfl rfl ?_
  show jX m_X8_add 98 0 0 77 [(7, .int 0), (0, .ref 49), (1, .int 0), (2, .int 0), (3, .int (-1)), (4, .int 0), (5, .int 0), (6, .int 0)] [] _ 0 0 _
  refine x_vret rfl rfl ?_
  show jX m_X11_addHolding 99 0 0 30 [(6, .int 0), (0, .ref 31), (1, .int (-1)), (2, .int 0), (3, .int 0), (4, .int 0), (5, .int 0)] [] _ 0 0 _
  refine x_aloadn (x := 31) rfl rfl ?_
  refine x_getR (b := 32) 11 0 rfl f_11_10 rfl (congrArg Prod.fst (sh_si (sh_si (sh_si (sh_si (sh_si (sh_si (F.1 31 (11, 13) rfl rfl)))))))) (rv_si (rv_si (rv_si (rv_si (rv_si (rv_si (F.2.1 3968 32 rfl rfl))))))) ?_
  refine x_getR (b := 63) 1 15 rfl f_11_159 rfl (congrArg Prod.fst (sh_si (sh_si (sh_si (sh_si (sh_si (sh_si (F.1 32 (1, 20) rfl rfl)))))))) (rv_si (rv_si (rv_si (rv_si (rv_si (rv_si (F.2.1 4111 63 rfl rfl))))))) ?_
  refine x_iconst (v := 3) rfl ki_3 ?_
  refine x_iload (x := 0) rfl rfl ?_
  refine x_iconst (v := 0) rfl ki_0 ?_
  refine x_iconst (v := 0) rfl ki_0 ?_
  refine x_iconst (v := 0) rfl ki_0 ?_
  refine x_iconst (v := 0) rfl ki_0 ?_
  refine x_inv (N := m_X8_add) (As := [.int 3, .int 0, .int 0, .int 0, .int 0, .int 0]) (b := 63) (st := []) (d' := 98) (mc := 0) (ms := 0) (host := "") 8 rfl t_X8_add ⟨Or.inl q_11_145, i_X8_add.1, i_X8_add.2⟩ ⟨by decide, rfl⟩ (congrArg Prod.fst (sh_si (sh_si (sh_si (sh_si (sh_si (sh_si (F.1 63 (8, 4) rfl rfl)))))))) rfl (by decide) rfl rfl ⟨by decide, by decide⟩ (jC.of rfl k_X8_add rfl ?_)
  show jX m_X8_add 98 0 0 0 [(0, .ref 63), (1, .int 3), (2, .int 0), (3, .int 0), (4, .int 0), (5, .int 0), (6, .int 0)] [] _ 0 0 _
  refine x_aloadn (x := 63) rfl rfl ?_
  refine y_getI (v := 0) 8 3 rfl f_8_7 rfl (congrArg Prod.fst (sh_si (sh_si (sh_si (sh_si (sh_si (sh_si (F.1 63 (8, 4) rfl rfl)))))))) (iv_si rfl (iv_si rfl (iv_si rfl (iv_si rfl (iv_si rfl (iv_si rfl (F.2.2.1 8067 0 rfl rfl))))))) ?_
  refine x_aloadn (x := 63) rfl rfl ?_
  refine y_getI (v := 370) 8 1 rfl f_8_22 rfl (congrArg Prod.fst (sh_si (sh_si (sh_si (sh_si (sh_si (sh_si (F.1 63 (8, 4) rfl rfl)))))))) (iv_si rfl (iv_si rfl (iv_si rfl (iv_si rfl (iv_si rfl (iv_si rfl (F.2.2.1 8065 370 rfl rfl))))))) ?_
  refine x_iclt (tgt := 12) rfl rfl (br_t (by decide) ?_)
  refine x_aloadn (x := 63) rfl rfl ?_
  refine y_getI (v := 0) 8 3 rfl f_8_7 rfl (congrArg Prod.fst (sh_si (sh_si (sh_si (sh_si (sh_si (sh_si (F.1 63 (8, 4) rfl rfl)))))))) (iv_si rfl (iv_si rfl (iv_si rfl (iv_si rfl (iv_si rfl (iv_si rfl (F.2.2.1 8067 0 rfl rfl))))))) ?_
  refine x_istore (ls' := [(7, .int 0), (0, .ref 63), (1, .int 3), (2, .int 0), (3, .int 0), (4, .int 0), (5, .int 0), (6, .int 0)]) rfl rfl rfl ?_
  refine x_aloadn (x := 63) rfl rfl ?_
  refine x_iload (x := 0) rfl rfl ?_
  refine x_iconst (v := 1) rfl ki_1 ?_
  refine y_iadd (v := 1) rfl (by decide) ?_
  refine x_putI 8 3 rfl f_8_7 rfl (jfin_no TX8 RX8 4 rfl rfl) (congrArg Prod.fst (sh_si (sh_si (sh_si (sh_si (sh_si (sh_si (F.1 63 (8, 4) rfl rfl)))))))) rfl ?_
  refine x_aloadn (x := 63) rfl rfl ?_
  refine x_iload (x := 0) rfl rfl ?_
  refine x_iconst (v := 0) rfl ki_0 ?_
  refine x_iloadn (x := 3) rfl rfl ?_
  refine x_inv (N := m_X8_put) (As := [.int 0, .int 0, .int 3]) (b := 63) (st := []) (d' := 97) (mc := 0) (ms := 0) (host := "") 8 rfl t_X8_put ⟨Or.inl q_8_29, i_X8_put.1, i_X8_put.2⟩ ⟨by decide, rfl⟩ (congrArg Prod.fst (sh_si (sh_si (sh_si (sh_si (sh_si (sh_si (sh_si (F.1 63 (8, 4) rfl rfl))))))))) rfl (by decide) rfl rfl ⟨by decide, by decide⟩ (jC.of rfl k_X8_put rfl ?_)
  show jX m_X8_put 97 0 0 0 [(0, .ref 63), (1, .int 0), (2, .int 0), (3, .int 3)] [] _ 0 0 _
  refine x_iloadn (x := 0) rfl rfl ?_
  refine x_iflt (tgt := 38) rfl rfl (br_f (by decide) ?_)
  refine x_iloadn (x := 0) rfl rfl ?_
  refine x_aloadn (x := 63) rfl rfl ?_
  refine y_getI (v := 1) 8 3 rfl f_8_7 rfl (congrArg Prod.fst (sh_si (sh_si (sh_si (sh_si (sh_si (sh_si (sh_si (F.1 63 (8, 4) rfl rfl))))))))) iv_eq ?_
  refine x_icge (tgt := 38) rfl rfl (br_f (by decide) ?_)
  refine x_iloadn (x := 0) rfl rfl ?_
  refine x_iflt (tgt := 38) rfl rfl (br_f (by decide) ?_)
  refine x_iloadn (x := 0) rfl rfl ?_
  refine x_aloadn (x := 63) rfl rfl ?_
  refine y_getI (v := 2) 8 0 rfl f_8_19 rfl (congrArg Prod.fst (sh_si (sh_si (sh_si (sh_si (sh_si (sh_si (sh_si (F.1 63 (8, 4) rfl rfl))))))))) (iv_si rfl (iv_si rfl (iv_si rfl (iv_si rfl (iv_si rfl (iv_si rfl (iv_si rfl (F.2.2.1 8064 2 rfl rfl)))))))) ?_
  refine x_icge (tgt := 38) rfl rfl (br_f (by decide) ?_)
  refine x_aloadn (x := 63) rfl rfl ?_
  refine x_getR (b := 64) 8 2 rfl f_8_25 rfl (congrArg Prod.fst (sh_si (sh_si (sh_si (sh_si (sh_si (sh_si (sh_si (F.1 63 (8, 4) rfl rfl))))))))) (rv_si (rv_si (rv_si (rv_si (rv_si (rv_si (rv_si (F.2.1 8066 64 rfl rfl)))))))) ?_
  refine x_iloadn (x := 0) rfl rfl ?_
  refine x_aloadn (x := 63) rfl rfl ?_
  refine y_getI (v := 2) 8 0 rfl f_8_19 rfl (congrArg Prod.fst (sh_si (sh_si (sh_si (sh_si (sh_si (sh_si (sh_si (F.1 63 (8, 4) rfl rfl))))))))) (iv_si rfl (iv_si rfl (iv_si rfl (iv_si rfl (iv_si rfl (iv_si rfl (iv_si rfl (F.2.2.1 8064 2 rfl rfl)))))))) ?_
  refine y_imul (v := 0) rfl (by decide) ?_
  refine x_iloadn (x := 0) rfl rfl ?_
  refine y_iadd (v := 0) rfl (by decide) ?_
  refine x_iloadn (x := 3) rfl rfl ?_
  refine y_iast (N := 740) 0 rfl (sh_si (sh_si (sh_si (sh_si (sh_si (sh_si (sh_si (F.1 64 (100, 740) rfl rfl)))))))) rfl (jinb_of (by decide)) (by decide) ?_
  refine x_vret rfl rfl ?_
  show jX m_X8_add 98 0 0 34 [(7, .int 0), (0, .ref 63), (1, .int 3), (2, .int 0), (3, .int 0), (4, .int 0), (5, .int 0), (6, .int 0)] [] _ 0 0 _
  refine x_aloadn (x := 63) rfl rfl ?_
  refine x_iload (x := 0) rfl rfl ?_
  refine x_iconst (v := 1) rfl ki_1 ?_
  refine x_iloadn (x := 0) rfl rfl ?_
  refine x_inv (N := m_X8_put) (As := [.int 0, .int 1, .int 0]) (b := 63) (st := []) (d' := 97) (mc := 0) (ms := 0) (host := "") 8 rfl t_X8_put ⟨Or.inl q_8_29, i_X8_put.1, i_X8_put.2⟩ ⟨by decide, rfl⟩ (congrArg Prod.fst (sh_si (sh_si (sh_si (sh_si (sh_si (sh_si (sh_si (sh_si (F.1 63 (8, 4) rfl rfl)))))))))) rfl (by decide) rfl rfl ⟨by decide, by decide⟩ (jC.of rfl k_X8_put rfl ?_)
  show jX m_X8_put 97 0 0 0 [(0, .ref 63), (1, .int 0), (2, .int 1), (3, .int 0)] [] _ 0 0 _
  refine x_iloadn (x := 0) rfl rfl ?_
  refine x_iflt (tgt := 38) rfl rfl (br_f (by decide) ?_)
  refine x_iloadn (x := 0) rfl rfl ?_
  refine x_aloadn (x := 63) rfl rfl ?_
  refine y_getI (v := 1) 8 3 rfl f_8_7 rfl (congrArg Prod.fst (sh_si (sh_si (sh_si (sh_si (sh_si (sh_si (sh_si (sh_si (F.1 63 (8, 4) rfl rfl)))))))))) (iv_si rfl iv_eq) ?_
  refine x_icge (tgt := 38) rfl rfl (br_f (by decide) ?_)
  refine x_iloadn (x := 1) rfl rfl ?_
  refine x_iflt (tgt := 38) rfl rfl (br_f (by decide) ?_)
  refine x_iloadn (x := 1) rfl rfl ?_
  refine x_aloadn (x := 63) rfl rfl ?_
  refine y_getI (v := 2) 8 0 rfl f_8_19 rfl (congrArg Prod.fst (sh_si (sh_si (sh_si (sh_si (sh_si (sh_si (sh_si (sh_si (F.1 63 (8, 4) rfl rfl)))))))))) (iv_si rfl (iv_si rfl (iv_si rfl (iv_si rfl (iv_si rfl (iv_si rfl (iv_si rfl (iv_si rfl (F.2.2.1 8064 2 rfl rfl))))))))) ?_
  refine x_icge (tgt := 38) rfl rfl (br_f (by decide) ?_)
  refine x_aloadn (x := 63) rfl rfl ?_
  refine x_getR (b := 64) 8 2 rfl f_8_25 rfl (congrArg Prod.fst (sh_si (sh_si (sh_si (sh_si (sh_si (sh_si (sh_si (sh_si (F.1 63 (8, 4) rfl rfl)))))))))) (rv_si (rv_si (rv_si (rv_si (rv_si (rv_si (rv_si (rv_si (F.2.1 8066 64 rfl rfl))))))))) ?_
  refine x_iloadn (x := 0) rfl rfl ?_
  refine x_aloadn (x := 63) rfl rfl ?_
  refine y_getI (v := 2) 8 0 rfl f_8_19 rfl (congrArg Prod.fst (sh_si (sh_si (sh_si (sh_si (sh_si (sh_si (sh_si (sh_si (F.1 63 (8, 4) rfl rfl)))))))))) (iv_si rfl (iv_si rfl (iv_si rfl (iv_si rfl (iv_si rfl (iv_si rfl (iv_si rfl (iv_si rfl (F.2.2.1 8064 2 rfl rfl))))))))) ?_
  refine y_imul (v := 0) rfl (by decide) ?_
  refine x_iloadn (x := 1) rfl rfl ?_
  refine y_iadd (v := 1) rfl (by decide) ?_
  refine x_iloadn (x := 0) rfl rfl ?_
  refine y_iast (N := 740) 1 rfl (sh_si (sh_si (sh_si (sh_si (sh_si (sh_si (sh_si (sh_si (F.1 64 (100, 740) rfl rfl))))))))) rfl (jinb_of (by decide)) (by decide) ?_
  refine x_vret rfl rfl ?_
  show jX m_X8_add 98 0 0 42 [(7, .int 0), (0, .ref 63), (1, .int 3), (2, .int 0), (3, .int 0), (4, .int 0), (5, .int 0), (6, .int 0)] [] _ 0 0 _
  refine x_aloadn (x := 63) rfl rfl ?_
  refine x_iload (x := 0) rfl rfl ?_
  refine x_iconst (v := 2) rfl ki_2 ?_
  refine x_iloadn (x := 0) rfl rfl ?_
  refine x_inv (N := m_X8_put) (As := [.int 0, .int 2, .int 0]) (b := 63) (st := []) (d' := 97) (mc := 0) (ms := 0) (host := "") 8 rfl t_X8_put ⟨Or.inl q_8_29, i_X8_put.1, i_X8_put.2⟩ ⟨by decide, rfl⟩ (congrArg Prod.fst (sh_si (sh_si (sh_si (sh_si (sh_si (sh_si (sh_si (sh_si (sh_si (F.1 63 (8, 4) rfl rfl))))))))))) rfl (by decide) rfl rfl ⟨by decide, by decide⟩ (jC.of rfl k_X8_put rfl ?_)
  show jX m_X8_put 97 0 0 0 [(0, .ref 63), (1, .int 0), (2, .int 2), (3, .int 0)] [] _ 0 0 _
  refine x_iloadn (x := 0) rfl rfl ?_
  refine x_iflt (tgt := 38) rfl rfl (br_f (by decide) ?_)
  refine x_iloadn (x := 0) rfl rfl ?_
  refine x_aloadn (x := 63) rfl rfl ?_
  refine y_getI (v := 1) 8 3 rfl f_8_7 rfl (congrArg Prod.fst (sh_si (sh_si (sh_si (sh_si (sh_si (sh_si (sh_si (sh_si (sh_si (F.1 63 (8, 4) rfl rfl))))))))))) (iv_si rfl (iv_si rfl iv_eq)) ?_
  refine x_icge (tgt := 38) rfl rfl (br_f (by decide) ?_)
  refine x_iloadn (x := 2) rfl rfl ?_
  refine x_iflt (tgt := 38) rfl rfl (br_f (by decide) ?_)
  refine x_iloadn (x := 2) rfl rfl ?_
  refine x_aloadn (x := 63) rfl rfl ?_
  refine y_getI (v := 2) 8 0 rfl f_8_19 rfl (congrArg Prod.fst (sh_si (sh_si (sh_si (sh_si (sh_si (sh_si (sh_si (sh_si (sh_si (F.1 63 (8, 4) rfl rfl))))))))))) (iv_si rfl (iv_si rfl (iv_si rfl (iv_si rfl (iv_si rfl (iv_si rfl (iv_si rfl (iv_si rfl (iv_si rfl (F.2.2.1 8064 2 rfl rfl)))))))))) ?_
  refine x_icge (tgt := 38) rfl rfl (br_t (by decide) ?_)
  refine x_vret rfl rfl ?_
  show jX m_X8_add 98 0 0 50 [(7, .int 0), (0, .ref 63), (1, .int 3), (2, .int 0), (3, .int 0), (4, .int 0), (5, .int 0), (6, .int 0)] [] _ 0 0 _
  refine x_aloadn (x := 63) rfl rfl ?_
  refine x_iload (x := 0) rfl rfl ?_
  refine x_iconst (v := 3) rfl ki_3 ?_
  refine x_iload (x := 0) rfl rfl ?_
  refine x_inv (N := m_X8_put) (As := [.int 0, .int 3, .int 0]) (b := 63) (st := []) (d' := 97) (mc := 0) (ms := 0) (host := "") 8 rfl t_X8_put ⟨Or.inl q_8_29, i_X8_put.1, i_X8_put.2⟩ ⟨by decide, rfl⟩ (congrArg Prod.fst (sh_si (sh_si (sh_si (sh_si (sh_si (sh_si (sh_si (sh_si (sh_si (F.1 63 (8, 4) rfl rfl))))))))))) rfl (by decide) rfl rfl ⟨by decide, by decide⟩ (jC.of rfl k_X8_put rfl ?_)
  show jX m_X8_put 97 0 0 0 [(0, .ref 63), (1, .int 0), (2, .int 3), (3, .int 0)] [] _ 0 0 _
  refine x_iloadn (x := 0) rfl rfl ?_
  refine x_iflt (tgt := 38) rfl rfl (br_f (by decide) ?_)
  refine x_iloadn (x := 0) rfl rfl ?_
  refine x_aloadn (x := 63) rfl rfl ?_
  refine y_getI (v := 1) 8 3 rfl f_8_7 rfl (congrArg Prod.fst (sh_si (sh_si (sh_si (sh_si (sh_si (sh_si (sh_si (sh_si (sh_si (F.1 63 (8, 4) rfl rfl))))))))))) (iv_si rfl (iv_si rfl iv_eq)) ?_
  refine x_icge (tgt := 38) rfl rfl (br_f (by decide) ?_)
  refine x_iloadn (x := 3) rfl rfl ?_
  refine x_iflt (tgt := 38) rfl rfl (br_f (by decide) ?_)
  refine x_iloadn (x := 3) rfl rfl ?_
  refine x_aloadn (x := 63) rfl rfl ?_
  refine y_getI (v := 2) 8 0 rfl f_8_19 rfl (congrArg Prod.fst (sh_si (sh_si (sh_si (sh_si (sh_si (sh_si (sh_si (sh_si (sh_si (F.1 63 (8, 4) rfl rfl))))))))))) (iv_si rfl (iv_si rfl (iv_si rfl (iv_si rfl (iv_si rfl (iv_si rfl (iv_si rfl (iv_si rfl (iv_si rfl (F.2.2.1 8064 2 rfl rfl)))))))))) ?_
  refine x_icge (tgt := 38) rfl rfl (br_t (by decide) ?_)
  refine x_vret rfl rfl ?_
  show jX m_X8_add 98 0 0 59 [(7, .int 0), (0, .ref 63), (1, .int 3), (2, .int 0), (3, .int 0), (4, .int 0), (5, .int 0), (6, .int 0)] [] _ 0 0 _
  refine x_aloadn (x := 63) rfl rfl ?_
  refine x_iload (x := 0) rfl rfl ?_
  refine x_iconst (v := 4) rfl ki_4 ?_
  refine x_iload (x := 0) rfl rfl ?_
  refine x_inv (N := m_X8_put) (As := [.int 0, .int 4, .int 0]) (b := 63) (st := []) (d' := 97) (mc := 0) (ms := 0) (host := "") 8 rfl t_X8_put ⟨Or.inl q_8_29, i_X8_put.1, i_X8_put.2⟩ ⟨by decide, rfl⟩ (congrArg Prod.fst (sh_si (sh_si (sh_si (sh_si (sh_si (sh_si (sh_si (sh_si (sh_si (F.1 63 (8, 4) rfl rfl))))))))))) rfl (by decide) rfl rfl ⟨by decide, by decide⟩ (jC.of rfl k_X8_put rfl ?_)
  show jX m_X8_put 97 0 0 0 [(0, .ref 63), (1, .int 0), (2, .int 4), (3, .int 0)] [] _ 0 0 _
  refine x_iloadn (x := 0) rfl rfl ?_
  refine x_iflt (tgt := 38) rfl rfl (br_f (by decide) ?_)
  refine x_iloadn (x := 0) rfl rfl ?_
  refine x_aloadn (x := 63) rfl rfl ?_
  refine y_getI (v := 1) 8 3 rfl f_8_7 rfl (congrArg Prod.fst (sh_si (sh_si (sh_si (sh_si (sh_si (sh_si (sh_si (sh_si (sh_si (F.1 63 (8, 4) rfl rfl))))))))))) (iv_si rfl (iv_si rfl iv_eq)) ?_
  refine x_icge (tgt := 38) rfl rfl (br_f (by decide) ?_)
  refine x_iloadn (x := 4) rfl rfl ?_
  refine x_iflt (tgt := 38) rfl rfl (br_f (by decide) ?_)
  refine x_iloadn (x := 4) rfl rfl ?_
  refine x_aloadn (x := 63) rfl rfl ?_
  refine y_getI (v := 2) 8 0 rfl f_8_19 rfl (congrArg Prod.fst (sh_si (sh_si (sh_si (sh_si (sh_si (sh_si (sh_si (sh_si (sh_si (F.1 63 (8, 4) rfl rfl))))))))))) (iv_si rfl (iv_si rfl (iv_si rfl (iv_si rfl (iv_si rfl (iv_si rfl (iv_si rfl (iv_si rfl (iv_si rfl (F.2.2.1 8064 2 rfl rfl)))))))))) ?_
  refine x_icge (tgt := 38) rfl rfl (br_t (by decide) ?_)
  refine x_vret rfl rfl ?_
  show jX m_X8_add 98 0 0 68 [(7, .int 0), (0, .ref 63), (1, .int 3), (2, .int 0), (3, .int 0), (4, .int 0), (5, .int 0), (6, .int 0)] [] _ 0 0 _
  refine x_aloadn (x := 63) rfl rfl ?_
  refine x_iload (x := 0) rfl rfl ?_
  refine x_iconst (v := 5) rfl ki_5 ?_
  refine x_iload (x := 0) rfl rfl ?_
  refine x_inv (N := m_X8_put) (As := [.int 0, .int 5, .int 0]) (b := 63) (st := []) (d' := 97) (mc := 0) (ms := 0) (host := "") 8 rfl t_X8_put ⟨Or.inl q_8_29, i_X8_put.1, i_X8_put.2⟩ ⟨by decide, rfl⟩ (congrArg Prod.fst (sh_si (sh_si (sh_si (sh_si (sh_si (sh_si (sh_si (sh_si (sh_si (F.1 63 (8, 4) rfl rfl))))))))))) rfl (by decide) rfl rfl ⟨by decide, by decide⟩ (jC.of rfl k_X8_put rfl ?_)
  show jX m_X8_put 97 0 0 0 [(0, .ref 63), (1, .int 0), (2, .int 5), (3, .int 0)] [] _ 0 0 _
  refine x_iloadn (x := 0) rfl rfl ?_
  refine x_iflt (tgt := 38) rfl rfl (br_f (by decide) ?_)
  refine x_iloadn (x := 0) rfl rfl ?_
  refine x_aloadn (x := 63) rfl rfl ?_
  refine y_getI (v := 1) 8 3 rfl f_8_7 rfl (congrArg Prod.fst (sh_si (sh_si (sh_si (sh_si (sh_si (sh_si (sh_si (sh_si (sh_si (F.1 63 (8, 4) rfl rfl))))))))))) (iv_si rfl (iv_si rfl iv_eq)) ?_
  refine x_icge (tgt := 38) rfl rfl (br_f (by decide) ?_)
  refine x_iloadn (x := 5) rfl rfl ?_
  refine x_iflt (tgt := 38) rfl rfl (br_f (by decide) ?_)
  refine x_iloadn (x := 5) rfl rfl ?_
  refine x_aloadn (x := 63) rfl rfl ?_
  refine y_getI (v := 2) 8 0 rfl f_8_19 rfl (congrArg Prod.fst (sh_si (sh_si (sh_si (sh_si (sh_si (sh_si (sh_si (sh_si (sh_si (F.1 63 (8, 4) rfl rfl))))))))))) (iv_si rfl (iv_si rfl (iv_si rfl (iv_si rfl (iv_si rfl (iv_si rfl (iv_si rfl (iv_si rfl (iv_si rfl (F.2.2.1 8064 2 rfl rfl)))))))))) ?_
  refine x_icge (tgt := 38) rfl rfl (br_t (by decide) ?_)
  refine x_vret rfl rfl ?_
  show jX m_X8_add 98 0 0 77 [(7, .int 0), (0, .ref 63), (1, .int 3), (2, .int 0), (3, .int 0), (4, .int 0), (5, .int 0), (6, .int 0)] [] _ 0 0 _
  refine x_vret rfl rfl ?_
  show jX m_X11_addHolding 99 0 0 47 [(6, .int 0), (0, .ref 31), (1, .int (-1)), (2, .int 0), (3, .int 0), (4, .int 0), (5, .int 0)] [] _ 0 0 _
  refine x_iload (x := 0) rfl rfl ?_
  refine x_iret rfl rfl ?_
  show jX m_X11_holding 100 0 0 30 [(0, .ref 31)] [.int 0, .ref 31] _ 0 0 _
  refine x_inv (N := m_X11_accept) (As := [.int 0]) (b := 31) (st := []) (d' := 99) (mc := 0) (ms := 0) (host := "") 11 rfl t_X11_accept ⟨Or.inl q_11_165, i_X11_accept.1, i_X11_accept.2⟩ ⟨by decide, rfl⟩ (congrArg Prod.fst (sh_si (sh_si (sh_si (sh_si (sh_si (sh_si (sh_si (sh_si (sh_si (F.1 31 (11, 13) rfl rfl))))))))))) rfl (by decide) rfl rfl ⟨by decide, by decide⟩ (jC.of rfl k_X11_accept rfl ?_)
  show jX m_X11_accept 99 0 0 0 [(0, .ref 31), (1, .int 0)] [] _ 0 0 _
  refine x_aloadn (x := 31) rfl rfl ?_
  refine x_iconst (v := 0) rfl ki_0 ?_
  refine x_putI 11 12 rfl f_11_94 rfl (jfin_no TX11 RX11 13 rfl rfl) (congrArg Prod.fst (sh_si (sh_si (sh_si (sh_si (sh_si (sh_si (sh_si (sh_si (sh_si (F.1 31 (11, 13) rfl rfl))))))))))) rfl ?_
  refine x_aloadn (x := 31) rfl rfl ?_
  refine x_getR (b := 32) 11 0 rfl f_11_10 rfl (congrArg Prod.fst (sh_si (sh_si (sh_si (sh_si (sh_si (sh_si (sh_si (sh_si (sh_si (sh_si (F.1 31 (11, 13) rfl rfl)))))))))))) (rv_si (rv_si (rv_si (rv_si (rv_si (rv_si (rv_si (rv_si (rv_si (rv_si (F.2.1 3968 32 rfl rfl))))))))))) ?_
  refine x_dup rfl rfl ?_
  refine y_getI (v := 1) 1 19 rfl f_11_528 rfl (congrArg Prod.fst (sh_si (sh_si (sh_si (sh_si (sh_si (sh_si (sh_si (sh_si (sh_si (sh_si (F.1 32 (1, 20) rfl rfl)))))))))))) (iv_si rfl (iv_si rfl (iv_si rfl (iv_si rfl (iv_si rfl (iv_si rfl (iv_si rfl (iv_si rfl (iv_si rfl (iv_si rfl (F.2.2.1 4115 1 rfl rfl))))))))))) ?_
  refine x_iconst (v := 1) rfl ki_1 ?_
  refine y_iadd (v := 2) rfl (by decide) ?_
  refine x_putI 1 19 rfl f_11_528 rfl (jfin_no TX1 RX1 20 rfl rfl) (congrArg Prod.fst (sh_si (sh_si (sh_si (sh_si (sh_si (sh_si (sh_si (sh_si (sh_si (sh_si (F.1 32 (1, 20) rfl rfl)))))))))))) rfl ?_
  refine x_iloadn (x := 0) rfl rfl ?_
  refine x_iret rfl rfl ?_
  show jX m_X11_holding 100 0 0 33 [(0, .ref 31)] [.int 0] _ 0 0 _
  refine x_iret rfl rfl ?_
  exact jqe (show sp_holding = 0 by unfold sp_holding; (repeat' split) <;> first | rfl | (exfalso; omega)) (hQ _ (jFb_si rfl (jFb_si rfl (jFb_si rfl (jFb_si rfl (jFb_si rfl (jFb_si rfl (jFb_si rfl (jFb_si rfl (jFb_si rfl (jFb_si rfl (jFb_si rfl FM))))))))))) (jOl_si rfl (jOl_si rfl (jOl_si rfl (jOl_si rfl (jOl_si rfl (jOl_si rfl (jOl_si rfl (jOl_si rfl (jOl_si rfl (jOl_si rfl (jOl_si rfl O))))))))))))
set_option maxRecDepth 100000 in
set_option maxHeartbeats 40000000 in
theorem pm_holding {xs : Nat → Int32} {h : jH} {Q : Option Value → jH → Prop} (F : jFb 125 h) (O : jOl 7 xs h) (hQ : ∀ h', jOl 7 xs h' → Q (some (.int (sp_holding))) h') : jC m_X12_holding 100 0 0 [.ref 125] h Q := by
  refine jC.of rfl k_X12_holding rfl ?_
  show jX m_X12_holding 100 0 0 0 [(0, .ref 125)] [] _ 0 0 _
  refine x_aloadn (x := 125) rfl rfl ?_
  refine x_iconst (v := 0) rfl ki_0 ?_
  refine x_putI 12 0 rfl f_12_180 rfl (jfin_no TX12 RX12 92 rfl rfl) (congrArg Prod.fst (F.1 125 (12, 92) rfl rfl)) rfl ?_
  refine x_aloadn (x := 125) rfl rfl ?_
  refine x_getR (b := 126) 12 2 rfl f_12_8 rfl (congrArg Prod.fst (sh_si (F.1 125 (12, 92) rfl rfl))) (rv_si (F.2.1 16002 126 rfl rfl)) ?_
  refine x_bipush (v := 7) rfl kb_7 ?_
  refine y_iald (v := 0) (N := 50660) 7 rfl (sh_si (F.1 126 (100, 50660) rfl rfl)) (jinb_of (by decide)) (by decide) (iv_si rfl (F.2.2.2.1 126 rfl rfl 7).1) ?_
  refine x_bipush (v := 40) rfl kb_40 ?_
  refine x_icne (tgt := 24) rfl rfl (bn_t (by decide) ?_)
  refine x_aloadn (x := 125) rfl rfl ?_
  refine x_getR (b := 126) 12 2 rfl f_12_8 rfl (congrArg Prod.fst (sh_si (F.1 125 (12, 92) rfl rfl))) (rv_si (F.2.1 16002 126 rfl rfl)) ?_
  refine x_bipush (v := 7) rfl kb_7 ?_
  refine x_dup2 rfl rfl rfl ?_
  refine y_iald (v := 0) (N := 50660) 7 rfl (sh_si (F.1 126 (100, 50660) rfl rfl)) (jinb_of (by decide)) (by decide) (iv_si rfl (F.2.2.2.1 126 rfl rfl 7).1) ?_
  refine x_iconst (v := 1) rfl ki_1 ?_
  refine y_iadd (v := 1) rfl (by decide) ?_
  refine y_iast (N := 50660) 7 rfl (sh_si (F.1 126 (100, 50660) rfl rfl)) rfl (jinb_of (by decide)) (by decide) ?_
  refine x_aloadn (x := 125) rfl rfl ?_
  refine x_iconst (v := 3) rfl ki_3 ?_
  refine x_aloadn (x := 125) rfl rfl ?_
  refine x_getR (b := 126) 12 2 rfl f_12_8 rfl (congrArg Prod.fst (sh_si (sh_si (F.1 125 (12, 92) rfl rfl)))) (rv_si (rv_si (F.2.1 16002 126 rfl rfl))) ?_
  refine x_bipush (v := 7) rfl kb_7 ?_
  refine y_iald (v := 1) (N := 50660) 7 rfl (sh_si (sh_si (F.1 126 (100, 50660) rfl rfl))) (jinb_of (by decide)) (by decide) iv_eq ?_
  refine x_iconst (v := 1) rfl ki_1 ?_
  refine y_isub (v := 0) rfl (by decide) ?_
  refine x_inv (N := m_X12_thing) (As := [.int 3, .int 0]) (b := 125) (st := []) (d' := 99) (mc := 0) (ms := 0) (host := "") 12 rfl t_X12_thing ⟨Or.inl q_12_289, i_X12_thing.1, i_X12_thing.2⟩ ⟨by decide, rfl⟩ (congrArg Prod.fst (sh_si (sh_si (F.1 125 (12, 92) rfl rfl)))) rfl (by decide) rfl rfl ⟨by decide, by decide⟩ (jC.of rfl k_X12_thing rfl ?_)
  show jX m_X12_thing 99 0 0 0 [(0, .ref 125), (1, .int 3), (2, .int 0)] [] _ 0 0 _
  refine x_ldc (v := 49920) rfl z_12_194 ?_
  refine x_iconst (v := 2) rfl ki_2 ?_
  refine x_aloadn (x := 125) rfl rfl ?_
  refine x_getR (b := 126) 12 2 rfl f_12_8 rfl (congrArg Prod.fst (sh_si (sh_si (F.1 125 (12, 92) rfl rfl)))) (rv_si (rv_si (F.2.1 16002 126 rfl rfl))) ?_
  refine x_bipush (v := 16) rfl kb_16 ?_
  refine y_iald (v := 0) (N := 50660) 16 rfl (sh_si (sh_si (F.1 126 (100, 50660) rfl rfl))) (jinb_of (by decide)) (by decide) (iv_si rfl (iv_si rfl (F.2.2.2.1 126 rfl rfl 16).1)) ?_
  refine y_imul (v := 0) rfl (by decide) ?_
  refine y_iadd (v := 49920) rfl (by decide) ?_
  refine x_istoren (ls' := [(3, .int 49920), (0, .ref 125), (1, .int 3), (2, .int 0)]) rfl rfl rfl ?_
  refine x_aloadn (x := 125) rfl rfl ?_
  refine x_getR (b := 126) 12 2 rfl f_12_8 rfl (congrArg Prod.fst (sh_si (sh_si (F.1 125 (12, 92) rfl rfl)))) (rv_si (rv_si (F.2.1 16002 126 rfl rfl))) ?_
  refine x_iloadn (x := 49920) rfl rfl ?_
  refine x_iloadn (x := 3) rfl rfl ?_
  refine y_iast (N := 50660) 49920 rfl (sh_si (sh_si (F.1 126 (100, 50660) rfl rfl))) rfl (jinb_of (by decide)) (by decide) ?_
  refine x_aloadn (x := 125) rfl rfl ?_
  refine x_getR (b := 126) 12 2 rfl f_12_8 rfl (congrArg Prod.fst (sh_si (sh_si (sh_si (F.1 125 (12, 92) rfl rfl))))) (rv_si (rv_si (rv_si (F.2.1 16002 126 rfl rfl)))) ?_
  refine x_iloadn (x := 49920) rfl rfl ?_
  refine x_iconst (v := 1) rfl ki_1 ?_
  refine y_iadd (v := 49921) rfl (by decide) ?_
  refine x_iloadn (x := 0) rfl rfl ?_
  refine y_iast (N := 50660) 49921 rfl (sh_si (sh_si (sh_si (F.1 126 (100, 50660) rfl rfl)))) rfl (jinb_of (by decide)) (by decide) ?_
  refine x_aloadn (x := 125) rfl rfl ?_
  refine x_getR (b := 126) 12 2 rfl f_12_8 rfl (congrArg Prod.fst (sh_si (sh_si (sh_si (sh_si (F.1 125 (12, 92) rfl rfl)))))) (rv_si (rv_si (rv_si (rv_si (F.2.1 16002 126 rfl rfl))))) ?_
  refine x_bipush (v := 16) rfl kb_16 ?_
  refine x_dup2 rfl rfl rfl ?_
  refine y_iald (v := 0) (N := 50660) 16 rfl (sh_si (sh_si (sh_si (sh_si (F.1 126 (100, 50660) rfl rfl))))) (jinb_of (by decide)) (by decide) (iv_si rfl (iv_si rfl (iv_si rfl (iv_si rfl (F.2.2.2.1 126 rfl rfl 16).1)))) ?_
  refine x_iconst (v := 1) rfl ki_1 ?_
  refine y_iadd (v := 1) rfl (by decide) ?_
  refine y_iast (N := 50660) 16 rfl (sh_si (sh_si (sh_si (sh_si (F.1 126 (100, 50660) rfl rfl))))) rfl (jinb_of (by decide)) (by decide) ?_
  refine x_vret rfl rfl ?_
  show jX m_X12_holding 100 0 0 49 [(0, .ref 125)] [] _ 0 0 _
  refine x_aloadn (x := 125) rfl rfl ?_
  refine x_aloadn (x := 125) rfl rfl ?_
  refine x_getR (b := 126) 12 2 rfl f_12_8 rfl (congrArg Prod.fst (sh_si (sh_si (sh_si (sh_si (sh_si (F.1 125 (12, 92) rfl rfl))))))) (rv_si (rv_si (rv_si (rv_si (rv_si (F.2.1 16002 126 rfl rfl)))))) ?_
  refine x_bipush (v := 7) rfl kb_7 ?_
  refine y_iald (v := 1) (N := 50660) 7 rfl (sh_si (sh_si (sh_si (sh_si (sh_si (F.1 126 (100, 50660) rfl rfl)))))) (jinb_of (by decide)) (by decide) (iv_si rfl (iv_si rfl (iv_si rfl iv_eq))) ?_
  refine x_iconst (v := 1) rfl ki_1 ?_
  refine y_isub (v := 0) rfl (by decide) ?_
  refine x_inv (N := m_X12_told) (As := [.int 0]) (b := 125) (st := []) (d' := 99) (mc := 0) (ms := 0) (host := "") 12 rfl t_X12_told ⟨Or.inl q_12_197, i_X12_told.1, i_X12_told.2⟩ ⟨by decide, rfl⟩ (congrArg Prod.fst (sh_si (sh_si (sh_si (sh_si (sh_si (F.1 125 (12, 92) rfl rfl))))))) rfl (by decide) rfl rfl ⟨by decide, by decide⟩ (jC.of rfl k_X12_told rfl ?_)
  show jX m_X12_told 99 0 0 0 [(0, .ref 125), (1, .int 0)] [] _ 0 0 _
  refine x_aloadn (x := 125) rfl rfl ?_
  refine x_iloadn (x := 0) rfl rfl ?_
  refine x_ifge (tgt := 9) rfl rfl (br_t (by decide) ?_)
  refine x_iconst (v := 0) rfl ki_0 ?_
  refine x_putI 12 1 rfl f_12_183 rfl (jfin_no TX12 RX12 92 rfl rfl) (congrArg Prod.fst (sh_si (sh_si (sh_si (sh_si (sh_si (F.1 125 (12, 92) rfl rfl))))))) rfl ?_
  refine x_iloadn (x := 0) rfl rfl ?_
  refine x_iret rfl rfl ?_
  show jX m_X12_holding 100 0 0 62 [(0, .ref 125)] [.int 0] _ 0 0 _
  refine x_iret rfl rfl ?_
  exact jqe (show sp_holding = 0 by unfold sp_holding; (repeat' split) <;> first | rfl | (exfalso; omega)) (hQ _ (jOl_si rfl (jOl_si rfl (jOl_si rfl (jOl_si rfl (jOl_si rfl (jOl_si rfl O)))))))
def sp_value (a1 a2 a3 a4 : Int32) : Int32 := if (0 ≤ a2.toInt ∧ a2.toInt ≤ 10000) ∧ (0 ≤ a3.toInt ∧ a3.toInt ≤ 146399) ∧ (0 ≤ a4.toInt ∧ a4.toInt ≤ 146399) then (-2) else (-1)
set_option maxRecDepth 100000 in
set_option maxHeartbeats 40000000 in
theorem px_value (a1 a2 a3 a4 : Int32) {xs : Nat → Int32} {h : jH} {Q : Option Value → jH → Prop} (F : jFb 31 h) (O : jOl 7 xs h) (hQ : ∀ h', jFb 125 h' → jOl 7 xs h' → Q (some (.int (sp_value a1 a2 a3 a4))) h') : jC m_X11_value 100 0 0 [.ref 31, .int a1, .int a2, .int a3, .int a4] h Q := by
  have FM := jFb_up 125 rfl F
  refine jC.of rfl k_X11_value rfl ?_
  show jX m_X11_value 100 0 0 0 [(0, .ref 31), (1, .int a1), (2, .int a2), (3, .int a3), (4, .int a4)] [] _ 0 0 _
  refine x_iloadn (x := a2) rfl rfl ?_
  refine x_iflt (tgt := 26) rfl rfl (ti_lt (show (a2 : Int32).toInt = a2.toInt from rfl) (show (0 : Int32).toInt = 0 by decide) ⟨fun c1 => ?_, fun c1 => ?_⟩)
  ·
    refine x_aloadn (x := 31) rfl rfl ?_
    refine x_iconst (v := (-1)) rfl ki_m1 ?_
    refine x_inv (N := m_X11_refuse) (As := [.int (-1)]) (b := 31) (st := []) (d' := 99) (mc := 0) (ms := 0) (host := "") 11 rfl t_X11_refuse ⟨Or.inl q_11_206, i_X11_refuse.1, i_X11_refuse.2⟩ ⟨by decide, rfl⟩ (congrArg Prod.fst (F.1 31 (11, 13) rfl rfl)) rfl (by decide) rfl rfl ⟨by decide, by decide⟩ (jC.of rfl k_X11_refuse rfl ?_)
    show jX m_X11_refuse 99 0 0 0 [(0, .ref 31), (1, .int (-1))] [] _ 0 0 _
    refine x_aloadn (x := 31) rfl rfl ?_
    refine x_iloadn (x := (-1)) rfl rfl ?_
    refine x_putI 11 12 rfl f_11_94 rfl (jfin_no TX11 RX11 13 rfl rfl) (congrArg Prod.fst (F.1 31 (11, 13) rfl rfl)) rfl ?_
    refine x_iloadn (x := (-1)) rfl rfl ?_
    refine x_iret rfl rfl ?_
    show jX m_X11_value 100 0 0 31 [(0, .ref 31), (1, .int a1), (2, .int a2), (3, .int a3), (4, .int a4)] [.int (-1)] _ 0 0 _
    refine x_iret rfl rfl ?_
    exact jqe (show sp_value a1 a2 a3 a4 = (-1) by unfold sp_value; (repeat' split) <;> first | rfl | (exfalso; omega)) (hQ _ (jFb_si rfl FM) (jOl_si rfl O))
  ·
    refine x_iloadn (x := a2) rfl rfl ?_
    refine x_sipush (v := 10000) rfl ks_10000 ?_
    refine x_icgt (tgt := 26) rfl rfl (ti_gt (show (a2 : Int32).toInt = a2.toInt from rfl) (show (10000 : Int32).toInt = 10000 by decide) ⟨fun c2 => ?_, fun c2 => ?_⟩)
    ·
      refine x_aloadn (x := 31) rfl rfl ?_
      refine x_iconst (v := (-1)) rfl ki_m1 ?_
      refine x_inv (N := m_X11_refuse) (As := [.int (-1)]) (b := 31) (st := []) (d' := 99) (mc := 0) (ms := 0) (host := "") 11 rfl t_X11_refuse ⟨Or.inl q_11_206, i_X11_refuse.1, i_X11_refuse.2⟩ ⟨by decide, rfl⟩ (congrArg Prod.fst (F.1 31 (11, 13) rfl rfl)) rfl (by decide) rfl rfl ⟨by decide, by decide⟩ (jC.of rfl k_X11_refuse rfl ?_)
      show jX m_X11_refuse 99 0 0 0 [(0, .ref 31), (1, .int (-1))] [] _ 0 0 _
      refine x_aloadn (x := 31) rfl rfl ?_
      refine x_iloadn (x := (-1)) rfl rfl ?_
      refine x_putI 11 12 rfl f_11_94 rfl (jfin_no TX11 RX11 13 rfl rfl) (congrArg Prod.fst (F.1 31 (11, 13) rfl rfl)) rfl ?_
      refine x_iloadn (x := (-1)) rfl rfl ?_
      refine x_iret rfl rfl ?_
      show jX m_X11_value 100 0 0 31 [(0, .ref 31), (1, .int a1), (2, .int a2), (3, .int a3), (4, .int a4)] [.int (-1)] _ 0 0 _
      refine x_iret rfl rfl ?_
      exact jqe (show sp_value a1 a2 a3 a4 = (-1) by unfold sp_value; (repeat' split) <;> first | rfl | (exfalso; omega)) (hQ _ (jFb_si rfl FM) (jOl_si rfl O))
    ·
      refine x_iloadn (x := a3) rfl rfl ?_
      refine x_inst (N := m_X11_isDay) (As := [.int a3]) (st := []) (d' := 99) (mc := 0) (ms := 0) (host := "") rfl t_X11_isDay ⟨Or.inl q_11_115, s_X11_isDay⟩ rfl (by decide) rfl rfl ⟨by decide, by decide⟩ (c_X11_isDay (x := a3) ?_)
      show jX m_X11_value 100 0 0 15 [(0, .ref 31), (1, .int a1), (2, .int a2), (3, .int a3), (4, .int a4)] [.int (jp (0 ≤ a3.toInt ∧ a3.toInt ≤ 146399))] _ 0 0 _
      refine x_ifeq (tgt := 26) rfl rfl (jpe ⟨fun c3 => ?_, fun c3 => ?_⟩)
      ·
        refine x_aloadn (x := 31) rfl rfl ?_
        refine x_iconst (v := (-1)) rfl ki_m1 ?_
        refine x_inv (N := m_X11_refuse) (As := [.int (-1)]) (b := 31) (st := []) (d' := 99) (mc := 0) (ms := 0) (host := "") 11 rfl t_X11_refuse ⟨Or.inl q_11_206, i_X11_refuse.1, i_X11_refuse.2⟩ ⟨by decide, rfl⟩ (congrArg Prod.fst (F.1 31 (11, 13) rfl rfl)) rfl (by decide) rfl rfl ⟨by decide, by decide⟩ (jC.of rfl k_X11_refuse rfl ?_)
        show jX m_X11_refuse 99 0 0 0 [(0, .ref 31), (1, .int (-1))] [] _ 0 0 _
        refine x_aloadn (x := 31) rfl rfl ?_
        refine x_iloadn (x := (-1)) rfl rfl ?_
        refine x_putI 11 12 rfl f_11_94 rfl (jfin_no TX11 RX11 13 rfl rfl) (congrArg Prod.fst (F.1 31 (11, 13) rfl rfl)) rfl ?_
        refine x_iloadn (x := (-1)) rfl rfl ?_
        refine x_iret rfl rfl ?_
        show jX m_X11_value 100 0 0 31 [(0, .ref 31), (1, .int a1), (2, .int a2), (3, .int a3), (4, .int a4)] [.int (-1)] _ 0 0 _
        refine x_iret rfl rfl ?_
        exact jqe (show sp_value a1 a2 a3 a4 = (-1) by unfold sp_value; (repeat' split) <;> first | rfl | (exfalso; omega)) (hQ _ (jFb_si rfl FM) (jOl_si rfl O))
      ·
        refine x_iload (x := a4) rfl rfl ?_
        refine x_inst (N := m_X11_isDay) (As := [.int a4]) (st := []) (d' := 99) (mc := 0) (ms := 0) (host := "") rfl t_X11_isDay ⟨Or.inl q_11_115, s_X11_isDay⟩ rfl (by decide) rfl rfl ⟨by decide, by decide⟩ (c_X11_isDay (x := a4) ?_)
        show jX m_X11_value 100 0 0 23 [(0, .ref 31), (1, .int a1), (2, .int a2), (3, .int a3), (4, .int a4)] [.int (jp (0 ≤ a4.toInt ∧ a4.toInt ≤ 146399))] _ 0 0 _
        refine x_ifne (tgt := 32) rfl rfl (jpn ⟨fun c4 => ?_, fun c4 => ?_⟩)
        ·
          refine x_aloadn (x := 31) rfl rfl ?_
          refine x_iloadn (x := a1) rfl rfl ?_
          refine x_inv (N := m_X11_isHolding) (As := [.int a1]) (b := 31) (st := []) (d' := 99) (mc := 0) (ms := 0) (host := "") 11 rfl t_X11_isHolding ⟨Or.inl q_11_415, i_X11_isHolding.1, i_X11_isHolding.2⟩ ⟨by decide, rfl⟩ (congrArg Prod.fst (F.1 31 (11, 13) rfl rfl)) rfl (by decide) rfl rfl ⟨by decide, by decide⟩ (jC.of rfl k_X11_isHolding rfl ?_)
          show jX m_X11_isHolding 99 0 0 0 [(0, .ref 31), (1, .int a1)] [] _ 0 0 _
          refine x_iloadn (x := a1) rfl rfl ?_
          refine x_iflt (tgt := 28) rfl rfl (ti_lt (show (a1 : Int32).toInt = a1.toInt from rfl) (show (0 : Int32).toInt = 0 by decide) ⟨fun c5 => ?_, fun c5 => ?_⟩)
          ·
            refine x_iconst (v := 0) rfl ki_0 ?_
            refine x_zret rfl rfl (by first | decide | exact jp_01 _) ?_
            show jX m_X11_value 100 0 0 37 [(0, .ref 31), (1, .int a1), (2, .int a2), (3, .int a3), (4, .int a4)] [.int 0] _ 0 0 _
            refine x_ifne (tgt := 47) rfl rfl (bn_f (by decide) ?_)
            refine x_aloadn (x := 31) rfl rfl ?_
            refine x_bipush (v := (-2)) rfl kb_m2 ?_
            refine x_inv (N := m_X11_refuse) (As := [.int (-2)]) (b := 31) (st := []) (d' := 99) (mc := 0) (ms := 0) (host := "") 11 rfl t_X11_refuse ⟨Or.inl q_11_206, i_X11_refuse.1, i_X11_refuse.2⟩ ⟨by decide, rfl⟩ (congrArg Prod.fst (F.1 31 (11, 13) rfl rfl)) rfl (by decide) rfl rfl ⟨by decide, by decide⟩ (jC.of rfl k_X11_refuse rfl ?_)
            show jX m_X11_refuse 99 0 0 0 [(0, .ref 31), (1, .int (-2))] [] _ 0 0 _
            refine x_aloadn (x := 31) rfl rfl ?_
            refine x_iloadn (x := (-2)) rfl rfl ?_
            refine x_putI 11 12 rfl f_11_94 rfl (jfin_no TX11 RX11 13 rfl rfl) (congrArg Prod.fst (F.1 31 (11, 13) rfl rfl)) rfl ?_
            refine x_iloadn (x := (-2)) rfl rfl ?_
            refine x_iret rfl rfl ?_
            show jX m_X11_value 100 0 0 46 [(0, .ref 31), (1, .int a1), (2, .int a2), (3, .int a3), (4, .int a4)] [.int (-2)] _ 0 0 _
            refine x_iret rfl rfl ?_
            exact jqe (show sp_value a1 a2 a3 a4 = (-2) by unfold sp_value; (repeat' split) <;> first | rfl | (exfalso; omega)) (hQ _ (jFb_si rfl FM) (jOl_si rfl O))
          ·
            refine x_iloadn (x := a1) rfl rfl ?_
            refine x_aloadn (x := 31) rfl rfl ?_
            refine x_getR (b := 32) 11 0 rfl f_11_10 rfl (congrArg Prod.fst (F.1 31 (11, 13) rfl rfl)) (F.2.1 3968 32 rfl rfl) ?_
            refine x_getR (b := 49) 1 8 rfl f_11_408 rfl (congrArg Prod.fst (F.1 32 (1, 20) rfl rfl)) (F.2.1 4104 49 rfl rfl) ?_
            refine y_getI (v := 0) 8 3 rfl f_11_142 rfl (congrArg Prod.fst (F.1 49 (8, 4) rfl rfl)) (F.2.2.1 6275 0 rfl rfl) ?_
            refine x_icge (tgt := 28) rfl rfl (ti_ge (show (a1 : Int32).toInt = a1.toInt from rfl) (show (0 : Int32).toInt = 0 by decide) ⟨fun c6 => ?_, fun c6 => ?_⟩)
            ·
              refine x_iconst (v := 0) rfl ki_0 ?_
              refine x_zret rfl rfl (by first | decide | exact jp_01 _) ?_
              show jX m_X11_value 100 0 0 37 [(0, .ref 31), (1, .int a1), (2, .int a2), (3, .int a3), (4, .int a4)] [.int 0] _ 0 0 _
              refine x_ifne (tgt := 47) rfl rfl (bn_f (by decide) ?_)
              refine x_aloadn (x := 31) rfl rfl ?_
              refine x_bipush (v := (-2)) rfl kb_m2 ?_
              refine x_inv (N := m_X11_refuse) (As := [.int (-2)]) (b := 31) (st := []) (d' := 99) (mc := 0) (ms := 0) (host := "") 11 rfl t_X11_refuse ⟨Or.inl q_11_206, i_X11_refuse.1, i_X11_refuse.2⟩ ⟨by decide, rfl⟩ (congrArg Prod.fst (F.1 31 (11, 13) rfl rfl)) rfl (by decide) rfl rfl ⟨by decide, by decide⟩ (jC.of rfl k_X11_refuse rfl ?_)
              show jX m_X11_refuse 99 0 0 0 [(0, .ref 31), (1, .int (-2))] [] _ 0 0 _
              refine x_aloadn (x := 31) rfl rfl ?_
              refine x_iloadn (x := (-2)) rfl rfl ?_
              refine x_putI 11 12 rfl f_11_94 rfl (jfin_no TX11 RX11 13 rfl rfl) (congrArg Prod.fst (F.1 31 (11, 13) rfl rfl)) rfl ?_
              refine x_iloadn (x := (-2)) rfl rfl ?_
              refine x_iret rfl rfl ?_
              show jX m_X11_value 100 0 0 46 [(0, .ref 31), (1, .int a1), (2, .int a2), (3, .int a3), (4, .int a4)] [.int (-2)] _ 0 0 _
              refine x_iret rfl rfl ?_
              exact jqe (show sp_value a1 a2 a3 a4 = (-2) by unfold sp_value; (repeat' split) <;> first | rfl | (exfalso; omega)) (hQ _ (jFb_si rfl FM) (jOl_si rfl O))
            ·
              exfalso
              omega
        ·
          refine x_aloadn (x := 31) rfl rfl ?_
          refine x_iconst (v := (-1)) rfl ki_m1 ?_
          refine x_inv (N := m_X11_refuse) (As := [.int (-1)]) (b := 31) (st := []) (d' := 99) (mc := 0) (ms := 0) (host := "") 11 rfl t_X11_refuse ⟨Or.inl q_11_206, i_X11_refuse.1, i_X11_refuse.2⟩ ⟨by decide, rfl⟩ (congrArg Prod.fst (F.1 31 (11, 13) rfl rfl)) rfl (by decide) rfl rfl ⟨by decide, by decide⟩ (jC.of rfl k_X11_refuse rfl ?_)
          show jX m_X11_refuse 99 0 0 0 [(0, .ref 31), (1, .int (-1))] [] _ 0 0 _
          refine x_aloadn (x := 31) rfl rfl ?_
          refine x_iloadn (x := (-1)) rfl rfl ?_
          refine x_putI 11 12 rfl f_11_94 rfl (jfin_no TX11 RX11 13 rfl rfl) (congrArg Prod.fst (F.1 31 (11, 13) rfl rfl)) rfl ?_
          refine x_iloadn (x := (-1)) rfl rfl ?_
          refine x_iret rfl rfl ?_
          show jX m_X11_value 100 0 0 31 [(0, .ref 31), (1, .int a1), (2, .int a2), (3, .int a3), (4, .int a4)] [.int (-1)] _ 0 0 _
          refine x_iret rfl rfl ?_
          exact jqe (show sp_value a1 a2 a3 a4 = (-1) by unfold sp_value; (repeat' split) <;> first | rfl | (exfalso; omega)) (hQ _ (jFb_si rfl FM) (jOl_si rfl O))
set_option maxRecDepth 100000 in
set_option maxHeartbeats 40000000 in
theorem pm_value (a1 a2 a3 a4 : Int32) {xs : Nat → Int32} {h : jH} {Q : Option Value → jH → Prop} (F : jFb 125 h) (O : jOl 7 xs h) (hQ : ∀ h', jOl 7 xs h' → Q (some (.int (sp_value a1 a2 a3 a4))) h') : jC m_X12_value 100 0 0 [.ref 125, .int a1, .int a2, .int a3, .int a4] h Q := by
  refine jC.of rfl k_X12_value rfl ?_
  show jX m_X12_value 100 0 0 0 [(0, .ref 125), (1, .int a1), (2, .int a2), (3, .int a3), (4, .int a4)] [] _ 0 0 _
  refine x_aloadn (x := 125) rfl rfl ?_
  refine x_iconst (v := 0) rfl ki_0 ?_
  refine x_putI 12 0 rfl f_12_180 rfl (jfin_no TX12 RX12 92 rfl rfl) (congrArg Prod.fst (F.1 125 (12, 92) rfl rfl)) rfl ?_
  refine x_iloadn (x := a2) rfl rfl ?_
  refine x_i2l rfl ?_
  refine x_lconst (v := 0) rfl kl_0 ?_
  refine x_ldc2 (v := 10000) rfl z_12_809 ?_
  refine x_inst (N := m_X12_in) (As := [.long (a2.toInt64), .long 0, .long 10000]) (st := []) (d' := 99) (mc := 0) (ms := 0) (host := "") rfl t_X12_in ⟨Or.inl q_12_188, s_X12_in⟩ rfl (by decide) rfl rfl ⟨by decide, by decide⟩ (c_X12_in (m := a2.toInt) (a := 0) (b := 10000) (jt_l _) (by decide) (by decide) ?_)
  show jX m_X12_value 100 0 0 14 [(0, .ref 125), (1, .int a1), (2, .int a2), (3, .int a3), (4, .int a4)] [.int (jp (0 ≤ a2.toInt ∧ a2.toInt ≤ 10000))] _ 0 0 _
  refine x_ifeq (tgt := 32) rfl rfl (jpe ⟨fun c1 => ?_, fun c1 => ?_⟩)
  ·
    refine x_aloadn (x := 125) rfl rfl ?_
    refine x_iconst (v := (-1)) rfl ki_m1 ?_
    refine x_inv (N := m_X12_told) (As := [.int (-1)]) (b := 125) (st := []) (d' := 99) (mc := 0) (ms := 0) (host := "") 12 rfl t_X12_told ⟨Or.inl q_12_197, i_X12_told.1, i_X12_told.2⟩ ⟨by decide, rfl⟩ (congrArg Prod.fst (sh_si (F.1 125 (12, 92) rfl rfl))) rfl (by decide) rfl rfl ⟨by decide, by decide⟩ (jC.of rfl k_X12_told rfl ?_)
    show jX m_X12_told 99 0 0 0 [(0, .ref 125), (1, .int (-1))] [] _ 0 0 _
    refine x_aloadn (x := 125) rfl rfl ?_
    refine x_iloadn (x := (-1)) rfl rfl ?_
    refine x_ifge (tgt := 9) rfl rfl (br_f (by decide) ?_)
    refine x_iloadn (x := (-1)) rfl rfl ?_
    refine x_goto (tgt := 10) rfl rfl ?_
    refine x_putI 12 1 rfl f_12_183 rfl (jfin_no TX12 RX12 92 rfl rfl) (congrArg Prod.fst (sh_si (F.1 125 (12, 92) rfl rfl))) rfl ?_
    refine x_iloadn (x := (-1)) rfl rfl ?_
    refine x_iret rfl rfl ?_
    show jX m_X12_value 100 0 0 37 [(0, .ref 125), (1, .int a1), (2, .int a2), (3, .int a3), (4, .int a4)] [.int (-1)] _ 0 0 _
    refine x_iret rfl rfl ?_
    exact jqe (show sp_value a1 a2 a3 a4 = (-1) by unfold sp_value; (repeat' split) <;> first | rfl | (exfalso; omega)) (hQ _ (jOl_si rfl (jOl_si rfl O)))
  ·
    refine x_iloadn (x := a3) rfl rfl ?_
    refine x_inst (N := m_X12_isDay) (As := [.int a3]) (st := []) (d' := 99) (mc := 0) (ms := 0) (host := "") rfl t_X12_isDay ⟨Or.inl q_12_273, s_X12_isDay⟩ rfl (by decide) rfl rfl ⟨by decide, by decide⟩ (c_X12_isDay (x := a3) ?_)
    show jX m_X12_value 100 0 0 21 [(0, .ref 125), (1, .int a1), (2, .int a2), (3, .int a3), (4, .int a4)] [.int (jp (0 ≤ a3.toInt ∧ a3.toInt ≤ 146399))] _ 0 0 _
    refine x_ifeq (tgt := 32) rfl rfl (jpe ⟨fun c2 => ?_, fun c2 => ?_⟩)
    ·
      refine x_aloadn (x := 125) rfl rfl ?_
      refine x_iconst (v := (-1)) rfl ki_m1 ?_
      refine x_inv (N := m_X12_told) (As := [.int (-1)]) (b := 125) (st := []) (d' := 99) (mc := 0) (ms := 0) (host := "") 12 rfl t_X12_told ⟨Or.inl q_12_197, i_X12_told.1, i_X12_told.2⟩ ⟨by decide, rfl⟩ (congrArg Prod.fst (sh_si (F.1 125 (12, 92) rfl rfl))) rfl (by decide) rfl rfl ⟨by decide, by decide⟩ (jC.of rfl k_X12_told rfl ?_)
      show jX m_X12_told 99 0 0 0 [(0, .ref 125), (1, .int (-1))] [] _ 0 0 _
      refine x_aloadn (x := 125) rfl rfl ?_
      refine x_iloadn (x := (-1)) rfl rfl ?_
      refine x_ifge (tgt := 9) rfl rfl (br_f (by decide) ?_)
      refine x_iloadn (x := (-1)) rfl rfl ?_
      refine x_goto (tgt := 10) rfl rfl ?_
      refine x_putI 12 1 rfl f_12_183 rfl (jfin_no TX12 RX12 92 rfl rfl) (congrArg Prod.fst (sh_si (F.1 125 (12, 92) rfl rfl))) rfl ?_
      refine x_iloadn (x := (-1)) rfl rfl ?_
      refine x_iret rfl rfl ?_
      show jX m_X12_value 100 0 0 37 [(0, .ref 125), (1, .int a1), (2, .int a2), (3, .int a3), (4, .int a4)] [.int (-1)] _ 0 0 _
      refine x_iret rfl rfl ?_
      exact jqe (show sp_value a1 a2 a3 a4 = (-1) by unfold sp_value; (repeat' split) <;> first | rfl | (exfalso; omega)) (hQ _ (jOl_si rfl (jOl_si rfl O)))
    ·
      refine x_iload (x := a4) rfl rfl ?_
      refine x_inst (N := m_X12_isDay) (As := [.int a4]) (st := []) (d' := 99) (mc := 0) (ms := 0) (host := "") rfl t_X12_isDay ⟨Or.inl q_12_273, s_X12_isDay⟩ rfl (by decide) rfl rfl ⟨by decide, by decide⟩ (c_X12_isDay (x := a4) ?_)
      show jX m_X12_value 100 0 0 29 [(0, .ref 125), (1, .int a1), (2, .int a2), (3, .int a3), (4, .int a4)] [.int (jp (0 ≤ a4.toInt ∧ a4.toInt ≤ 146399))] _ 0 0 _
      refine x_ifne (tgt := 38) rfl rfl (jpn ⟨fun c3 => ?_, fun c3 => ?_⟩)
      ·
        refine x_aloadn (x := 125) rfl rfl ?_
        refine x_iloadn (x := a1) rfl rfl ?_
        refine x_inv (N := m_X12_isHolding) (As := [.int a1]) (b := 125) (st := []) (d' := 99) (mc := 0) (ms := 0) (host := "") 12 rfl t_X12_isHolding ⟨Or.inl q_12_811, i_X12_isHolding.1, i_X12_isHolding.2⟩ ⟨by decide, rfl⟩ (congrArg Prod.fst (sh_si (F.1 125 (12, 92) rfl rfl))) rfl (by decide) rfl rfl ⟨by decide, by decide⟩ (jC.of rfl k_X12_isHolding rfl ?_)
        show jX m_X12_isHolding 99 0 0 0 [(0, .ref 125), (1, .int a1)] [] _ 0 0 _
        refine x_iloadn (x := a1) rfl rfl ?_
        refine x_i2l rfl ?_
        refine x_lconst (v := 0) rfl kl_0 ?_
        refine x_aloadn (x := 125) rfl rfl ?_
        refine x_getR (b := 126) 12 2 rfl f_12_8 rfl (congrArg Prod.fst (sh_si (F.1 125 (12, 92) rfl rfl))) (rv_si (F.2.1 16002 126 rfl rfl)) ?_
        refine x_bipush (v := 7) rfl kb_7 ?_
        refine y_iald (v := 0) (N := 50660) 7 rfl (sh_si (F.1 126 (100, 50660) rfl rfl)) (jinb_of (by decide)) (by decide) (iv_si rfl (F.2.2.2.1 126 rfl rfl 7).1) ?_
        refine y_i2l (v := 0) rfl (by decide) ?_
        refine x_lconst (v := 1) rfl kl_1 ?_
        refine y_lsub (v := (-1)) rfl (by decide) ?_
        refine x_inst (N := m_X12_in) (As := [.long (a1.toInt64), .long 0, .long (-1)]) (st := []) (d' := 98) (mc := 0) (ms := 0) (host := "") rfl t_X12_in ⟨Or.inl q_12_188, s_X12_in⟩ rfl (by decide) rfl rfl ⟨by decide, by decide⟩ (c_X12_in (m := a1.toInt) (a := 0) (b := (-1)) (jt_l _) (by decide) (by decide) ?_)
        show jX m_X12_isHolding 99 0 0 16 [(0, .ref 125), (1, .int a1)] [.int (jp (0 ≤ a1.toInt ∧ a1.toInt ≤ (-1)))] _ 0 0 _
        refine x_zret rfl rfl (by first | decide | exact jp_01 _) ?_
        show jX m_X12_value 100 0 0 43 [(0, .ref 125), (1, .int a1), (2, .int a2), (3, .int a3), (4, .int a4)] [.int (jp (0 ≤ a1.toInt ∧ a1.toInt ≤ (-1)))] _ 0 0 _
        refine x_ifne (tgt := 53) rfl rfl (jpn ⟨fun c4 => ?_, fun c4 => ?_⟩)
        ·
          exfalso
          omega
        ·
          refine x_aloadn (x := 125) rfl rfl ?_
          refine x_bipush (v := (-2)) rfl kb_m2 ?_
          refine x_inv (N := m_X12_told) (As := [.int (-2)]) (b := 125) (st := []) (d' := 99) (mc := 0) (ms := 0) (host := "") 12 rfl t_X12_told ⟨Or.inl q_12_197, i_X12_told.1, i_X12_told.2⟩ ⟨by decide, rfl⟩ (congrArg Prod.fst (sh_si (F.1 125 (12, 92) rfl rfl))) rfl (by decide) rfl rfl ⟨by decide, by decide⟩ (jC.of rfl k_X12_told rfl ?_)
          show jX m_X12_told 99 0 0 0 [(0, .ref 125), (1, .int (-2))] [] _ 0 0 _
          refine x_aloadn (x := 125) rfl rfl ?_
          refine x_iloadn (x := (-2)) rfl rfl ?_
          refine x_ifge (tgt := 9) rfl rfl (br_f (by decide) ?_)
          refine x_iloadn (x := (-2)) rfl rfl ?_
          refine x_goto (tgt := 10) rfl rfl ?_
          refine x_putI 12 1 rfl f_12_183 rfl (jfin_no TX12 RX12 92 rfl rfl) (congrArg Prod.fst (sh_si (F.1 125 (12, 92) rfl rfl))) rfl ?_
          refine x_iloadn (x := (-2)) rfl rfl ?_
          refine x_iret rfl rfl ?_
          show jX m_X12_value 100 0 0 52 [(0, .ref 125), (1, .int a1), (2, .int a2), (3, .int a3), (4, .int a4)] [.int (-2)] _ 0 0 _
          refine x_iret rfl rfl ?_
          exact jqe (show sp_value a1 a2 a3 a4 = (-2) by unfold sp_value; (repeat' split) <;> first | rfl | (exfalso; omega)) (hQ _ (jOl_si rfl (jOl_si rfl O)))
      ·
        refine x_aloadn (x := 125) rfl rfl ?_
        refine x_iconst (v := (-1)) rfl ki_m1 ?_
        refine x_inv (N := m_X12_told) (As := [.int (-1)]) (b := 125) (st := []) (d' := 99) (mc := 0) (ms := 0) (host := "") 12 rfl t_X12_told ⟨Or.inl q_12_197, i_X12_told.1, i_X12_told.2⟩ ⟨by decide, rfl⟩ (congrArg Prod.fst (sh_si (F.1 125 (12, 92) rfl rfl))) rfl (by decide) rfl rfl ⟨by decide, by decide⟩ (jC.of rfl k_X12_told rfl ?_)
        show jX m_X12_told 99 0 0 0 [(0, .ref 125), (1, .int (-1))] [] _ 0 0 _
        refine x_aloadn (x := 125) rfl rfl ?_
        refine x_iloadn (x := (-1)) rfl rfl ?_
        refine x_ifge (tgt := 9) rfl rfl (br_f (by decide) ?_)
        refine x_iloadn (x := (-1)) rfl rfl ?_
        refine x_goto (tgt := 10) rfl rfl ?_
        refine x_putI 12 1 rfl f_12_183 rfl (jfin_no TX12 RX12 92 rfl rfl) (congrArg Prod.fst (sh_si (F.1 125 (12, 92) rfl rfl))) rfl ?_
        refine x_iloadn (x := (-1)) rfl rfl ?_
        refine x_iret rfl rfl ?_
        show jX m_X12_value 100 0 0 37 [(0, .ref 125), (1, .int a1), (2, .int a2), (3, .int a3), (4, .int a4)] [.int (-1)] _ 0 0 _
        refine x_iret rfl rfl ?_
        exact jqe (show sp_value a1 a2 a3 a4 = (-1) by unfold sp_value; (repeat' split) <;> first | rfl | (exfalso; omega)) (hQ _ (jOl_si rfl (jOl_si rfl O)))
def sp_split (a1 a2 a3 a4 a5 : Int32) : Int32 := if (1 ≤ a2.toInt ∧ a2.toInt ≤ 100) ∧ (1 ≤ a3.toInt ∧ a3.toInt ≤ 100) ∧ a2.toInt < a3.toInt ∧ (0 ≤ a4.toInt ∧ a4.toInt ≤ 146399) ∧ (0 ≤ a5.toInt ∧ a5.toInt ≤ 146399) then (-2) else (-1)
set_option maxRecDepth 100000 in
set_option maxHeartbeats 40000000 in
theorem px_split (a1 a2 a3 a4 a5 : Int32) {xs : Nat → Int32} {h : jH} {Q : Option Value → jH → Prop} (F : jFb 31 h) (O : jOl 7 xs h) (hQ : ∀ h', jFb 125 h' → jOl 7 xs h' → Q (some (.int (sp_split a1 a2 a3 a4 a5))) h') : jC m_X11_split 100 0 0 [.ref 31, .int a1, .int a2, .int a3, .int a4, .int a5] h Q := by
  have FM := jFb_up 125 rfl F
  refine jC.of rfl k_X11_split rfl ?_
  show jX m_X11_split 100 0 0 0 [(0, .ref 31), (1, .int a1), (2, .int a2), (3, .int a3), (4, .int a4), (5, .int a5)] [] _ 0 0 _
  refine x_iloadn (x := a2) rfl rfl ?_
  refine x_iconst (v := 1) rfl ki_1 ?_
  refine x_bipush (v := 100) rfl kb_100 ?_
  refine x_inst (N := m_X11_isWithin) (As := [.int a2, .int 1, .int 100]) (st := []) (d' := 99) (mc := 0) (ms := 0) (host := "") rfl t_X11_isWithin ⟨Or.inl q_11_202, s_X11_isWithin⟩ rfl (by decide) rfl rfl ⟨by decide, by decide⟩ (c_X11_isWithin (m := a2.toInt) (i := 1) (j := 100) rfl (by decide) (by decide) ?_)
  show jX m_X11_split 100 0 0 7 [(0, .ref 31), (1, .int a1), (2, .int a2), (3, .int a3), (4, .int a4), (5, .int a5)] [.int (jp (1 ≤ a2.toInt ∧ a2.toInt ≤ 100))] _ 0 0 _
  refine x_ifeq (tgt := 41) rfl rfl (jpe ⟨fun c1 => ?_, fun c1 => ?_⟩)
  ·
    refine x_aloadn (x := 31) rfl rfl ?_
    refine x_iconst (v := (-1)) rfl ki_m1 ?_
    refine x_inv (N := m_X11_refuse) (As := [.int (-1)]) (b := 31) (st := []) (d' := 99) (mc := 0) (ms := 0) (host := "") 11 rfl t_X11_refuse ⟨Or.inl q_11_206, i_X11_refuse.1, i_X11_refuse.2⟩ ⟨by decide, rfl⟩ (congrArg Prod.fst (F.1 31 (11, 13) rfl rfl)) rfl (by decide) rfl rfl ⟨by decide, by decide⟩ (jC.of rfl k_X11_refuse rfl ?_)
    show jX m_X11_refuse 99 0 0 0 [(0, .ref 31), (1, .int (-1))] [] _ 0 0 _
    refine x_aloadn (x := 31) rfl rfl ?_
    refine x_iloadn (x := (-1)) rfl rfl ?_
    refine x_putI 11 12 rfl f_11_94 rfl (jfin_no TX11 RX11 13 rfl rfl) (congrArg Prod.fst (F.1 31 (11, 13) rfl rfl)) rfl ?_
    refine x_iloadn (x := (-1)) rfl rfl ?_
    refine x_iret rfl rfl ?_
    show jX m_X11_split 100 0 0 46 [(0, .ref 31), (1, .int a1), (2, .int a2), (3, .int a3), (4, .int a4), (5, .int a5)] [.int (-1)] _ 0 0 _
    refine x_iret rfl rfl ?_
    exact jqe (show sp_split a1 a2 a3 a4 a5 = (-1) by unfold sp_split; (repeat' split) <;> first | rfl | (exfalso; omega)) (hQ _ (jFb_si rfl FM) (jOl_si rfl O))
  ·
    refine x_iloadn (x := a3) rfl rfl ?_
    refine x_iconst (v := 1) rfl ki_1 ?_
    refine x_bipush (v := 100) rfl kb_100 ?_
    refine x_inst (N := m_X11_isWithin) (As := [.int a3, .int 1, .int 100]) (st := []) (d' := 99) (mc := 0) (ms := 0) (host := "") rfl t_X11_isWithin ⟨Or.inl q_11_202, s_X11_isWithin⟩ rfl (by decide) rfl rfl ⟨by decide, by decide⟩ (c_X11_isWithin (m := a3.toInt) (i := 1) (j := 100) rfl (by decide) (by decide) ?_)
    show jX m_X11_split 100 0 0 17 [(0, .ref 31), (1, .int a1), (2, .int a2), (3, .int a3), (4, .int a4), (5, .int a5)] [.int (jp (1 ≤ a3.toInt ∧ a3.toInt ≤ 100))] _ 0 0 _
    refine x_ifeq (tgt := 41) rfl rfl (jpe ⟨fun c2 => ?_, fun c2 => ?_⟩)
    ·
      refine x_aloadn (x := 31) rfl rfl ?_
      refine x_iconst (v := (-1)) rfl ki_m1 ?_
      refine x_inv (N := m_X11_refuse) (As := [.int (-1)]) (b := 31) (st := []) (d' := 99) (mc := 0) (ms := 0) (host := "") 11 rfl t_X11_refuse ⟨Or.inl q_11_206, i_X11_refuse.1, i_X11_refuse.2⟩ ⟨by decide, rfl⟩ (congrArg Prod.fst (F.1 31 (11, 13) rfl rfl)) rfl (by decide) rfl rfl ⟨by decide, by decide⟩ (jC.of rfl k_X11_refuse rfl ?_)
      show jX m_X11_refuse 99 0 0 0 [(0, .ref 31), (1, .int (-1))] [] _ 0 0 _
      refine x_aloadn (x := 31) rfl rfl ?_
      refine x_iloadn (x := (-1)) rfl rfl ?_
      refine x_putI 11 12 rfl f_11_94 rfl (jfin_no TX11 RX11 13 rfl rfl) (congrArg Prod.fst (F.1 31 (11, 13) rfl rfl)) rfl ?_
      refine x_iloadn (x := (-1)) rfl rfl ?_
      refine x_iret rfl rfl ?_
      show jX m_X11_split 100 0 0 46 [(0, .ref 31), (1, .int a1), (2, .int a2), (3, .int a3), (4, .int a4), (5, .int a5)] [.int (-1)] _ 0 0 _
      refine x_iret rfl rfl ?_
      exact jqe (show sp_split a1 a2 a3 a4 a5 = (-1) by unfold sp_split; (repeat' split) <;> first | rfl | (exfalso; omega)) (hQ _ (jFb_si rfl FM) (jOl_si rfl O))
    ·
      refine x_iloadn (x := a2) rfl rfl ?_
      refine x_iloadn (x := a3) rfl rfl ?_
      refine x_icge (tgt := 41) rfl rfl (ti_ge (show (a2 : Int32).toInt = a2.toInt from rfl) (show (a3 : Int32).toInt = a3.toInt from rfl) ⟨fun c3 => ?_, fun c3 => ?_⟩)
      ·
        refine x_aloadn (x := 31) rfl rfl ?_
        refine x_iconst (v := (-1)) rfl ki_m1 ?_
        refine x_inv (N := m_X11_refuse) (As := [.int (-1)]) (b := 31) (st := []) (d' := 99) (mc := 0) (ms := 0) (host := "") 11 rfl t_X11_refuse ⟨Or.inl q_11_206, i_X11_refuse.1, i_X11_refuse.2⟩ ⟨by decide, rfl⟩ (congrArg Prod.fst (F.1 31 (11, 13) rfl rfl)) rfl (by decide) rfl rfl ⟨by decide, by decide⟩ (jC.of rfl k_X11_refuse rfl ?_)
        show jX m_X11_refuse 99 0 0 0 [(0, .ref 31), (1, .int (-1))] [] _ 0 0 _
        refine x_aloadn (x := 31) rfl rfl ?_
        refine x_iloadn (x := (-1)) rfl rfl ?_
        refine x_putI 11 12 rfl f_11_94 rfl (jfin_no TX11 RX11 13 rfl rfl) (congrArg Prod.fst (F.1 31 (11, 13) rfl rfl)) rfl ?_
        refine x_iloadn (x := (-1)) rfl rfl ?_
        refine x_iret rfl rfl ?_
        show jX m_X11_split 100 0 0 46 [(0, .ref 31), (1, .int a1), (2, .int a2), (3, .int a3), (4, .int a4), (5, .int a5)] [.int (-1)] _ 0 0 _
        refine x_iret rfl rfl ?_
        exact jqe (show sp_split a1 a2 a3 a4 a5 = (-1) by unfold sp_split; (repeat' split) <;> first | rfl | (exfalso; omega)) (hQ _ (jFb_si rfl FM) (jOl_si rfl O))
      ·
        refine x_iload (x := a4) rfl rfl ?_
        refine x_inst (N := m_X11_isDay) (As := [.int a4]) (st := []) (d' := 99) (mc := 0) (ms := 0) (host := "") rfl t_X11_isDay ⟨Or.inl q_11_115, s_X11_isDay⟩ rfl (by decide) rfl rfl ⟨by decide, by decide⟩ (c_X11_isDay (x := a4) ?_)
        show jX m_X11_split 100 0 0 30 [(0, .ref 31), (1, .int a1), (2, .int a2), (3, .int a3), (4, .int a4), (5, .int a5)] [.int (jp (0 ≤ a4.toInt ∧ a4.toInt ≤ 146399))] _ 0 0 _
        refine x_ifeq (tgt := 41) rfl rfl (jpe ⟨fun c4 => ?_, fun c4 => ?_⟩)
        ·
          refine x_aloadn (x := 31) rfl rfl ?_
          refine x_iconst (v := (-1)) rfl ki_m1 ?_
          refine x_inv (N := m_X11_refuse) (As := [.int (-1)]) (b := 31) (st := []) (d' := 99) (mc := 0) (ms := 0) (host := "") 11 rfl t_X11_refuse ⟨Or.inl q_11_206, i_X11_refuse.1, i_X11_refuse.2⟩ ⟨by decide, rfl⟩ (congrArg Prod.fst (F.1 31 (11, 13) rfl rfl)) rfl (by decide) rfl rfl ⟨by decide, by decide⟩ (jC.of rfl k_X11_refuse rfl ?_)
          show jX m_X11_refuse 99 0 0 0 [(0, .ref 31), (1, .int (-1))] [] _ 0 0 _
          refine x_aloadn (x := 31) rfl rfl ?_
          refine x_iloadn (x := (-1)) rfl rfl ?_
          refine x_putI 11 12 rfl f_11_94 rfl (jfin_no TX11 RX11 13 rfl rfl) (congrArg Prod.fst (F.1 31 (11, 13) rfl rfl)) rfl ?_
          refine x_iloadn (x := (-1)) rfl rfl ?_
          refine x_iret rfl rfl ?_
          show jX m_X11_split 100 0 0 46 [(0, .ref 31), (1, .int a1), (2, .int a2), (3, .int a3), (4, .int a4), (5, .int a5)] [.int (-1)] _ 0 0 _
          refine x_iret rfl rfl ?_
          exact jqe (show sp_split a1 a2 a3 a4 a5 = (-1) by unfold sp_split; (repeat' split) <;> first | rfl | (exfalso; omega)) (hQ _ (jFb_si rfl FM) (jOl_si rfl O))
        ·
          refine x_iload (x := a5) rfl rfl ?_
          refine x_inst (N := m_X11_isDay) (As := [.int a5]) (st := []) (d' := 99) (mc := 0) (ms := 0) (host := "") rfl t_X11_isDay ⟨Or.inl q_11_115, s_X11_isDay⟩ rfl (by decide) rfl rfl ⟨by decide, by decide⟩ (c_X11_isDay (x := a5) ?_)
          show jX m_X11_split 100 0 0 38 [(0, .ref 31), (1, .int a1), (2, .int a2), (3, .int a3), (4, .int a4), (5, .int a5)] [.int (jp (0 ≤ a5.toInt ∧ a5.toInt ≤ 146399))] _ 0 0 _
          refine x_ifne (tgt := 47) rfl rfl (jpn ⟨fun c5 => ?_, fun c5 => ?_⟩)
          ·
            refine x_aloadn (x := 31) rfl rfl ?_
            refine x_iloadn (x := a1) rfl rfl ?_
            refine x_inv (N := m_X11_isHolding) (As := [.int a1]) (b := 31) (st := []) (d' := 99) (mc := 0) (ms := 0) (host := "") 11 rfl t_X11_isHolding ⟨Or.inl q_11_415, i_X11_isHolding.1, i_X11_isHolding.2⟩ ⟨by decide, rfl⟩ (congrArg Prod.fst (F.1 31 (11, 13) rfl rfl)) rfl (by decide) rfl rfl ⟨by decide, by decide⟩ (jC.of rfl k_X11_isHolding rfl ?_)
            show jX m_X11_isHolding 99 0 0 0 [(0, .ref 31), (1, .int a1)] [] _ 0 0 _
            refine x_iloadn (x := a1) rfl rfl ?_
            refine x_iflt (tgt := 28) rfl rfl (ti_lt (show (a1 : Int32).toInt = a1.toInt from rfl) (show (0 : Int32).toInt = 0 by decide) ⟨fun c6 => ?_, fun c6 => ?_⟩)
            ·
              refine x_iconst (v := 0) rfl ki_0 ?_
              refine x_zret rfl rfl (by first | decide | exact jp_01 _) ?_
              show jX m_X11_split 100 0 0 52 [(0, .ref 31), (1, .int a1), (2, .int a2), (3, .int a3), (4, .int a4), (5, .int a5)] [.int 0] _ 0 0 _
              refine x_ifne (tgt := 62) rfl rfl (bn_f (by decide) ?_)
              refine x_aloadn (x := 31) rfl rfl ?_
              refine x_bipush (v := (-2)) rfl kb_m2 ?_
              refine x_inv (N := m_X11_refuse) (As := [.int (-2)]) (b := 31) (st := []) (d' := 99) (mc := 0) (ms := 0) (host := "") 11 rfl t_X11_refuse ⟨Or.inl q_11_206, i_X11_refuse.1, i_X11_refuse.2⟩ ⟨by decide, rfl⟩ (congrArg Prod.fst (F.1 31 (11, 13) rfl rfl)) rfl (by decide) rfl rfl ⟨by decide, by decide⟩ (jC.of rfl k_X11_refuse rfl ?_)
              show jX m_X11_refuse 99 0 0 0 [(0, .ref 31), (1, .int (-2))] [] _ 0 0 _
              refine x_aloadn (x := 31) rfl rfl ?_
              refine x_iloadn (x := (-2)) rfl rfl ?_
              refine x_putI 11 12 rfl f_11_94 rfl (jfin_no TX11 RX11 13 rfl rfl) (congrArg Prod.fst (F.1 31 (11, 13) rfl rfl)) rfl ?_
              refine x_iloadn (x := (-2)) rfl rfl ?_
              refine x_iret rfl rfl ?_
              show jX m_X11_split 100 0 0 61 [(0, .ref 31), (1, .int a1), (2, .int a2), (3, .int a3), (4, .int a4), (5, .int a5)] [.int (-2)] _ 0 0 _
              refine x_iret rfl rfl ?_
              exact jqe (show sp_split a1 a2 a3 a4 a5 = (-2) by unfold sp_split; (repeat' split) <;> first | rfl | (exfalso; omega)) (hQ _ (jFb_si rfl FM) (jOl_si rfl O))
            ·
              refine x_iloadn (x := a1) rfl rfl ?_
              refine x_aloadn (x := 31) rfl rfl ?_
              refine x_getR (b := 32) 11 0 rfl f_11_10 rfl (congrArg Prod.fst (F.1 31 (11, 13) rfl rfl)) (F.2.1 3968 32 rfl rfl) ?_
              refine x_getR (b := 49) 1 8 rfl f_11_408 rfl (congrArg Prod.fst (F.1 32 (1, 20) rfl rfl)) (F.2.1 4104 49 rfl rfl) ?_
              refine y_getI (v := 0) 8 3 rfl f_11_142 rfl (congrArg Prod.fst (F.1 49 (8, 4) rfl rfl)) (F.2.2.1 6275 0 rfl rfl) ?_
              refine x_icge (tgt := 28) rfl rfl (ti_ge (show (a1 : Int32).toInt = a1.toInt from rfl) (show (0 : Int32).toInt = 0 by decide) ⟨fun c7 => ?_, fun c7 => ?_⟩)
              ·
                refine x_iconst (v := 0) rfl ki_0 ?_
                refine x_zret rfl rfl (by first | decide | exact jp_01 _) ?_
                show jX m_X11_split 100 0 0 52 [(0, .ref 31), (1, .int a1), (2, .int a2), (3, .int a3), (4, .int a4), (5, .int a5)] [.int 0] _ 0 0 _
                refine x_ifne (tgt := 62) rfl rfl (bn_f (by decide) ?_)
                refine x_aloadn (x := 31) rfl rfl ?_
                refine x_bipush (v := (-2)) rfl kb_m2 ?_
                refine x_inv (N := m_X11_refuse) (As := [.int (-2)]) (b := 31) (st := []) (d' := 99) (mc := 0) (ms := 0) (host := "") 11 rfl t_X11_refuse ⟨Or.inl q_11_206, i_X11_refuse.1, i_X11_refuse.2⟩ ⟨by decide, rfl⟩ (congrArg Prod.fst (F.1 31 (11, 13) rfl rfl)) rfl (by decide) rfl rfl ⟨by decide, by decide⟩ (jC.of rfl k_X11_refuse rfl ?_)
                show jX m_X11_refuse 99 0 0 0 [(0, .ref 31), (1, .int (-2))] [] _ 0 0 _
                refine x_aloadn (x := 31) rfl rfl ?_
                refine x_iloadn (x := (-2)) rfl rfl ?_
                refine x_putI 11 12 rfl f_11_94 rfl (jfin_no TX11 RX11 13 rfl rfl) (congrArg Prod.fst (F.1 31 (11, 13) rfl rfl)) rfl ?_
                refine x_iloadn (x := (-2)) rfl rfl ?_
                refine x_iret rfl rfl ?_
                show jX m_X11_split 100 0 0 61 [(0, .ref 31), (1, .int a1), (2, .int a2), (3, .int a3), (4, .int a4), (5, .int a5)] [.int (-2)] _ 0 0 _
                refine x_iret rfl rfl ?_
                exact jqe (show sp_split a1 a2 a3 a4 a5 = (-2) by unfold sp_split; (repeat' split) <;> first | rfl | (exfalso; omega)) (hQ _ (jFb_si rfl FM) (jOl_si rfl O))
              ·
                exfalso
                omega
          ·
            refine x_aloadn (x := 31) rfl rfl ?_
            refine x_iconst (v := (-1)) rfl ki_m1 ?_
            refine x_inv (N := m_X11_refuse) (As := [.int (-1)]) (b := 31) (st := []) (d' := 99) (mc := 0) (ms := 0) (host := "") 11 rfl t_X11_refuse ⟨Or.inl q_11_206, i_X11_refuse.1, i_X11_refuse.2⟩ ⟨by decide, rfl⟩ (congrArg Prod.fst (F.1 31 (11, 13) rfl rfl)) rfl (by decide) rfl rfl ⟨by decide, by decide⟩ (jC.of rfl k_X11_refuse rfl ?_)
            show jX m_X11_refuse 99 0 0 0 [(0, .ref 31), (1, .int (-1))] [] _ 0 0 _
            refine x_aloadn (x := 31) rfl rfl ?_
            refine x_iloadn (x := (-1)) rfl rfl ?_
            refine x_putI 11 12 rfl f_11_94 rfl (jfin_no TX11 RX11 13 rfl rfl) (congrArg Prod.fst (F.1 31 (11, 13) rfl rfl)) rfl ?_
            refine x_iloadn (x := (-1)) rfl rfl ?_
            refine x_iret rfl rfl ?_
            show jX m_X11_split 100 0 0 46 [(0, .ref 31), (1, .int a1), (2, .int a2), (3, .int a3), (4, .int a4), (5, .int a5)] [.int (-1)] _ 0 0 _
            refine x_iret rfl rfl ?_
            exact jqe (show sp_split a1 a2 a3 a4 a5 = (-1) by unfold sp_split; (repeat' split) <;> first | rfl | (exfalso; omega)) (hQ _ (jFb_si rfl FM) (jOl_si rfl O))
set_option maxRecDepth 100000 in
set_option maxHeartbeats 40000000 in
theorem pm_split (a1 a2 a3 a4 a5 : Int32) {xs : Nat → Int32} {h : jH} {Q : Option Value → jH → Prop} (F : jFb 125 h) (O : jOl 7 xs h) (hQ : ∀ h', jOl 7 xs h' → Q (some (.int (sp_split a1 a2 a3 a4 a5))) h') : jC m_X12_split 100 0 0 [.ref 125, .int a1, .int a2, .int a3, .int a4, .int a5] h Q := by
  refine jC.of rfl k_X12_split rfl ?_
  show jX m_X12_split 100 0 0 0 [(0, .ref 125), (1, .int a1), (2, .int a2), (3, .int a3), (4, .int a4), (5, .int a5)] [] _ 0 0 _
  refine x_aloadn (x := 125) rfl rfl ?_
  refine x_iconst (v := 0) rfl ki_0 ?_
  refine x_putI 12 0 rfl f_12_180 rfl (jfin_no TX12 RX12 92 rfl rfl) (congrArg Prod.fst (F.1 125 (12, 92) rfl rfl)) rfl ?_
  refine x_iloadn (x := a3) rfl rfl ?_
  refine x_i2l rfl ?_
  refine x_lconst (v := 1) rfl kl_1 ?_
  refine x_ldc2 (v := 100) rfl z_12_331 ?_
  refine x_inst (N := m_X12_in) (As := [.long (a3.toInt64), .long 1, .long 100]) (st := []) (d' := 99) (mc := 0) (ms := 0) (host := "") rfl t_X12_in ⟨Or.inl q_12_188, s_X12_in⟩ rfl (by decide) rfl rfl ⟨by decide, by decide⟩ (c_X12_in (m := a3.toInt) (a := 1) (b := 100) (jt_l _) (by decide) (by decide) ?_)
  show jX m_X12_split 100 0 0 14 [(0, .ref 125), (1, .int a1), (2, .int a2), (3, .int a3), (4, .int a4), (5, .int a5)] [.int (jp (1 ≤ a3.toInt ∧ a3.toInt ≤ 100))] _ 0 0 _
  refine x_ifeq (tgt := 46) rfl rfl (jpe ⟨fun c1 => ?_, fun c1 => ?_⟩)
  ·
    refine x_aloadn (x := 125) rfl rfl ?_
    refine x_iconst (v := (-1)) rfl ki_m1 ?_
    refine x_inv (N := m_X12_told) (As := [.int (-1)]) (b := 125) (st := []) (d' := 99) (mc := 0) (ms := 0) (host := "") 12 rfl t_X12_told ⟨Or.inl q_12_197, i_X12_told.1, i_X12_told.2⟩ ⟨by decide, rfl⟩ (congrArg Prod.fst (sh_si (F.1 125 (12, 92) rfl rfl))) rfl (by decide) rfl rfl ⟨by decide, by decide⟩ (jC.of rfl k_X12_told rfl ?_)
    show jX m_X12_told 99 0 0 0 [(0, .ref 125), (1, .int (-1))] [] _ 0 0 _
    refine x_aloadn (x := 125) rfl rfl ?_
    refine x_iloadn (x := (-1)) rfl rfl ?_
    refine x_ifge (tgt := 9) rfl rfl (br_f (by decide) ?_)
    refine x_iloadn (x := (-1)) rfl rfl ?_
    refine x_goto (tgt := 10) rfl rfl ?_
    refine x_putI 12 1 rfl f_12_183 rfl (jfin_no TX12 RX12 92 rfl rfl) (congrArg Prod.fst (sh_si (F.1 125 (12, 92) rfl rfl))) rfl ?_
    refine x_iloadn (x := (-1)) rfl rfl ?_
    refine x_iret rfl rfl ?_
    show jX m_X12_split 100 0 0 51 [(0, .ref 125), (1, .int a1), (2, .int a2), (3, .int a3), (4, .int a4), (5, .int a5)] [.int (-1)] _ 0 0 _
    refine x_iret rfl rfl ?_
    exact jqe (show sp_split a1 a2 a3 a4 a5 = (-1) by unfold sp_split; (repeat' split) <;> first | rfl | (exfalso; omega)) (hQ _ (jOl_si rfl (jOl_si rfl O)))
  ·
    refine x_iloadn (x := a2) rfl rfl ?_
    refine x_i2l rfl ?_
    refine x_lconst (v := 1) rfl kl_1 ?_
    refine x_iloadn (x := a3) rfl rfl ?_
    refine x_i2l rfl ?_
    refine x_lconst (v := 1) rfl kl_1 ?_
    refine x_lsub rfl ?_
    refine x_inst (N := m_X12_in) (As := [.long (a2.toInt64), .long 1, .long ((a3.toInt64) - 1)]) (st := []) (d' := 99) (mc := 0) (ms := 0) (host := "") rfl t_X12_in ⟨Or.inl q_12_188, s_X12_in⟩ rfl (by decide) rfl rfl ⟨by decide, by decide⟩ (c_X12_in (m := a2.toInt) (a := 1) (b := a3.toInt - 1) (jt_l _) (by decide) (jt_l1 _) ?_)
    show jX m_X12_split 100 0 0 27 [(0, .ref 125), (1, .int a1), (2, .int a2), (3, .int a3), (4, .int a4), (5, .int a5)] [.int (jp (1 ≤ a2.toInt ∧ a2.toInt ≤ a3.toInt - 1))] _ 0 0 _
    refine x_ifeq (tgt := 46) rfl rfl (jpe ⟨fun c2 => ?_, fun c2 => ?_⟩)
    ·
      refine x_aloadn (x := 125) rfl rfl ?_
      refine x_iconst (v := (-1)) rfl ki_m1 ?_
      refine x_inv (N := m_X12_told) (As := [.int (-1)]) (b := 125) (st := []) (d' := 99) (mc := 0) (ms := 0) (host := "") 12 rfl t_X12_told ⟨Or.inl q_12_197, i_X12_told.1, i_X12_told.2⟩ ⟨by decide, rfl⟩ (congrArg Prod.fst (sh_si (F.1 125 (12, 92) rfl rfl))) rfl (by decide) rfl rfl ⟨by decide, by decide⟩ (jC.of rfl k_X12_told rfl ?_)
      show jX m_X12_told 99 0 0 0 [(0, .ref 125), (1, .int (-1))] [] _ 0 0 _
      refine x_aloadn (x := 125) rfl rfl ?_
      refine x_iloadn (x := (-1)) rfl rfl ?_
      refine x_ifge (tgt := 9) rfl rfl (br_f (by decide) ?_)
      refine x_iloadn (x := (-1)) rfl rfl ?_
      refine x_goto (tgt := 10) rfl rfl ?_
      refine x_putI 12 1 rfl f_12_183 rfl (jfin_no TX12 RX12 92 rfl rfl) (congrArg Prod.fst (sh_si (F.1 125 (12, 92) rfl rfl))) rfl ?_
      refine x_iloadn (x := (-1)) rfl rfl ?_
      refine x_iret rfl rfl ?_
      show jX m_X12_split 100 0 0 51 [(0, .ref 125), (1, .int a1), (2, .int a2), (3, .int a3), (4, .int a4), (5, .int a5)] [.int (-1)] _ 0 0 _
      refine x_iret rfl rfl ?_
      exact jqe (show sp_split a1 a2 a3 a4 a5 = (-1) by unfold sp_split; (repeat' split) <;> first | rfl | (exfalso; omega)) (hQ _ (jOl_si rfl (jOl_si rfl O)))
    ·
      refine x_iload (x := a4) rfl rfl ?_
      refine x_inst (N := m_X12_isDay) (As := [.int a4]) (st := []) (d' := 99) (mc := 0) (ms := 0) (host := "") rfl t_X12_isDay ⟨Or.inl q_12_273, s_X12_isDay⟩ rfl (by decide) rfl rfl ⟨by decide, by decide⟩ (c_X12_isDay (x := a4) ?_)
      show jX m_X12_split 100 0 0 35 [(0, .ref 125), (1, .int a1), (2, .int a2), (3, .int a3), (4, .int a4), (5, .int a5)] [.int (jp (0 ≤ a4.toInt ∧ a4.toInt ≤ 146399))] _ 0 0 _
      refine x_ifeq (tgt := 46) rfl rfl (jpe ⟨fun c3 => ?_, fun c3 => ?_⟩)
      ·
        refine x_aloadn (x := 125) rfl rfl ?_
        refine x_iconst (v := (-1)) rfl ki_m1 ?_
        refine x_inv (N := m_X12_told) (As := [.int (-1)]) (b := 125) (st := []) (d' := 99) (mc := 0) (ms := 0) (host := "") 12 rfl t_X12_told ⟨Or.inl q_12_197, i_X12_told.1, i_X12_told.2⟩ ⟨by decide, rfl⟩ (congrArg Prod.fst (sh_si (F.1 125 (12, 92) rfl rfl))) rfl (by decide) rfl rfl ⟨by decide, by decide⟩ (jC.of rfl k_X12_told rfl ?_)
        show jX m_X12_told 99 0 0 0 [(0, .ref 125), (1, .int (-1))] [] _ 0 0 _
        refine x_aloadn (x := 125) rfl rfl ?_
        refine x_iloadn (x := (-1)) rfl rfl ?_
        refine x_ifge (tgt := 9) rfl rfl (br_f (by decide) ?_)
        refine x_iloadn (x := (-1)) rfl rfl ?_
        refine x_goto (tgt := 10) rfl rfl ?_
        refine x_putI 12 1 rfl f_12_183 rfl (jfin_no TX12 RX12 92 rfl rfl) (congrArg Prod.fst (sh_si (F.1 125 (12, 92) rfl rfl))) rfl ?_
        refine x_iloadn (x := (-1)) rfl rfl ?_
        refine x_iret rfl rfl ?_
        show jX m_X12_split 100 0 0 51 [(0, .ref 125), (1, .int a1), (2, .int a2), (3, .int a3), (4, .int a4), (5, .int a5)] [.int (-1)] _ 0 0 _
        refine x_iret rfl rfl ?_
        exact jqe (show sp_split a1 a2 a3 a4 a5 = (-1) by unfold sp_split; (repeat' split) <;> first | rfl | (exfalso; omega)) (hQ _ (jOl_si rfl (jOl_si rfl O)))
      ·
        refine x_iload (x := a5) rfl rfl ?_
        refine x_inst (N := m_X12_isDay) (As := [.int a5]) (st := []) (d' := 99) (mc := 0) (ms := 0) (host := "") rfl t_X12_isDay ⟨Or.inl q_12_273, s_X12_isDay⟩ rfl (by decide) rfl rfl ⟨by decide, by decide⟩ (c_X12_isDay (x := a5) ?_)
        show jX m_X12_split 100 0 0 43 [(0, .ref 125), (1, .int a1), (2, .int a2), (3, .int a3), (4, .int a4), (5, .int a5)] [.int (jp (0 ≤ a5.toInt ∧ a5.toInt ≤ 146399))] _ 0 0 _
        refine x_ifne (tgt := 52) rfl rfl (jpn ⟨fun c4 => ?_, fun c4 => ?_⟩)
        ·
          refine x_aloadn (x := 125) rfl rfl ?_
          refine x_iloadn (x := a1) rfl rfl ?_
          refine x_inv (N := m_X12_isHolding) (As := [.int a1]) (b := 125) (st := []) (d' := 99) (mc := 0) (ms := 0) (host := "") 12 rfl t_X12_isHolding ⟨Or.inl q_12_811, i_X12_isHolding.1, i_X12_isHolding.2⟩ ⟨by decide, rfl⟩ (congrArg Prod.fst (sh_si (F.1 125 (12, 92) rfl rfl))) rfl (by decide) rfl rfl ⟨by decide, by decide⟩ (jC.of rfl k_X12_isHolding rfl ?_)
          show jX m_X12_isHolding 99 0 0 0 [(0, .ref 125), (1, .int a1)] [] _ 0 0 _
          refine x_iloadn (x := a1) rfl rfl ?_
          refine x_i2l rfl ?_
          refine x_lconst (v := 0) rfl kl_0 ?_
          refine x_aloadn (x := 125) rfl rfl ?_
          refine x_getR (b := 126) 12 2 rfl f_12_8 rfl (congrArg Prod.fst (sh_si (F.1 125 (12, 92) rfl rfl))) (rv_si (F.2.1 16002 126 rfl rfl)) ?_
          refine x_bipush (v := 7) rfl kb_7 ?_
          refine y_iald (v := 0) (N := 50660) 7 rfl (sh_si (F.1 126 (100, 50660) rfl rfl)) (jinb_of (by decide)) (by decide) (iv_si rfl (F.2.2.2.1 126 rfl rfl 7).1) ?_
          refine y_i2l (v := 0) rfl (by decide) ?_
          refine x_lconst (v := 1) rfl kl_1 ?_
          refine y_lsub (v := (-1)) rfl (by decide) ?_
          refine x_inst (N := m_X12_in) (As := [.long (a1.toInt64), .long 0, .long (-1)]) (st := []) (d' := 98) (mc := 0) (ms := 0) (host := "") rfl t_X12_in ⟨Or.inl q_12_188, s_X12_in⟩ rfl (by decide) rfl rfl ⟨by decide, by decide⟩ (c_X12_in (m := a1.toInt) (a := 0) (b := (-1)) (jt_l _) (by decide) (by decide) ?_)
          show jX m_X12_isHolding 99 0 0 16 [(0, .ref 125), (1, .int a1)] [.int (jp (0 ≤ a1.toInt ∧ a1.toInt ≤ (-1)))] _ 0 0 _
          refine x_zret rfl rfl (by first | decide | exact jp_01 _) ?_
          show jX m_X12_split 100 0 0 57 [(0, .ref 125), (1, .int a1), (2, .int a2), (3, .int a3), (4, .int a4), (5, .int a5)] [.int (jp (0 ≤ a1.toInt ∧ a1.toInt ≤ (-1)))] _ 0 0 _
          refine x_ifne (tgt := 67) rfl rfl (jpn ⟨fun c5 => ?_, fun c5 => ?_⟩)
          ·
            exfalso
            omega
          ·
            refine x_aloadn (x := 125) rfl rfl ?_
            refine x_bipush (v := (-2)) rfl kb_m2 ?_
            refine x_inv (N := m_X12_told) (As := [.int (-2)]) (b := 125) (st := []) (d' := 99) (mc := 0) (ms := 0) (host := "") 12 rfl t_X12_told ⟨Or.inl q_12_197, i_X12_told.1, i_X12_told.2⟩ ⟨by decide, rfl⟩ (congrArg Prod.fst (sh_si (F.1 125 (12, 92) rfl rfl))) rfl (by decide) rfl rfl ⟨by decide, by decide⟩ (jC.of rfl k_X12_told rfl ?_)
            show jX m_X12_told 99 0 0 0 [(0, .ref 125), (1, .int (-2))] [] _ 0 0 _
            refine x_aloadn (x := 125) rfl rfl ?_
            refine x_iloadn (x := (-2)) rfl rfl ?_
            refine x_ifge (tgt := 9) rfl rfl (br_f (by decide) ?_)
            refine x_iloadn (x := (-2)) rfl rfl ?_
            refine x_goto (tgt := 10) rfl rfl ?_
            refine x_putI 12 1 rfl f_12_183 rfl (jfin_no TX12 RX12 92 rfl rfl) (congrArg Prod.fst (sh_si (F.1 125 (12, 92) rfl rfl))) rfl ?_
            refine x_iloadn (x := (-2)) rfl rfl ?_
            refine x_iret rfl rfl ?_
            show jX m_X12_split 100 0 0 66 [(0, .ref 125), (1, .int a1), (2, .int a2), (3, .int a3), (4, .int a4), (5, .int a5)] [.int (-2)] _ 0 0 _
            refine x_iret rfl rfl ?_
            exact jqe (show sp_split a1 a2 a3 a4 a5 = (-2) by unfold sp_split; (repeat' split) <;> first | rfl | (exfalso; omega)) (hQ _ (jOl_si rfl (jOl_si rfl O)))
        ·
          refine x_aloadn (x := 125) rfl rfl ?_
          refine x_iconst (v := (-1)) rfl ki_m1 ?_
          refine x_inv (N := m_X12_told) (As := [.int (-1)]) (b := 125) (st := []) (d' := 99) (mc := 0) (ms := 0) (host := "") 12 rfl t_X12_told ⟨Or.inl q_12_197, i_X12_told.1, i_X12_told.2⟩ ⟨by decide, rfl⟩ (congrArg Prod.fst (sh_si (F.1 125 (12, 92) rfl rfl))) rfl (by decide) rfl rfl ⟨by decide, by decide⟩ (jC.of rfl k_X12_told rfl ?_)
          show jX m_X12_told 99 0 0 0 [(0, .ref 125), (1, .int (-1))] [] _ 0 0 _
          refine x_aloadn (x := 125) rfl rfl ?_
          refine x_iloadn (x := (-1)) rfl rfl ?_
          refine x_ifge (tgt := 9) rfl rfl (br_f (by decide) ?_)
          refine x_iloadn (x := (-1)) rfl rfl ?_
          refine x_goto (tgt := 10) rfl rfl ?_
          refine x_putI 12 1 rfl f_12_183 rfl (jfin_no TX12 RX12 92 rfl rfl) (congrArg Prod.fst (sh_si (F.1 125 (12, 92) rfl rfl))) rfl ?_
          refine x_iloadn (x := (-1)) rfl rfl ?_
          refine x_iret rfl rfl ?_
          show jX m_X12_split 100 0 0 51 [(0, .ref 125), (1, .int a1), (2, .int a2), (3, .int a3), (4, .int a4), (5, .int a5)] [.int (-1)] _ 0 0 _
          refine x_iret rfl rfl ?_
          exact jqe (show sp_split a1 a2 a3 a4 a5 = (-1) by unfold sp_split; (repeat' split) <;> first | rfl | (exfalso; omega)) (hQ _ (jOl_si rfl (jOl_si rfl O)))
def sp_hold (a1 a2 a3 a4 : Int32) : Int32 := if (0 ≤ a3.toInt ∧ a3.toInt ≤ 146399) ∧ (0 ≤ a4.toInt ∧ a4.toInt ≤ 146399) then (-2) else (-1)
set_option maxRecDepth 100000 in
set_option maxHeartbeats 40000000 in
theorem px_hold (a1 a2 a3 a4 : Int32) {xs : Nat → Int32} {h : jH} {Q : Option Value → jH → Prop} (F : jFb 31 h) (O : jOl 7 xs h) (hQ : ∀ h', jFb 125 h' → jOl 7 xs h' → Q (some (.int (sp_hold a1 a2 a3 a4))) h') : jC m_X11_hold 100 0 0 [.ref 31, .int a1, .int a2, .int a3, .int a4] h Q := by
  have FM := jFb_up 125 rfl F
  refine jC.of rfl k_X11_hold rfl ?_
  show jX m_X11_hold 100 0 0 0 [(0, .ref 31), (1, .int a1), (2, .int a2), (3, .int a3), (4, .int a4)] [] _ 0 0 _
  refine x_iloadn (x := a3) rfl rfl ?_
  refine x_inst (N := m_X11_isDay) (As := [.int a3]) (st := []) (d' := 99) (mc := 0) (ms := 0) (host := "") rfl t_X11_isDay ⟨Or.inl q_11_115, s_X11_isDay⟩ rfl (by decide) rfl rfl ⟨by decide, by decide⟩ (c_X11_isDay (x := a3) ?_)
  show jX m_X11_hold 100 0 0 4 [(0, .ref 31), (1, .int a1), (2, .int a2), (3, .int a3), (4, .int a4)] [.int (jp (0 ≤ a3.toInt ∧ a3.toInt ≤ 146399))] _ 0 0 _
  refine x_ifeq (tgt := 15) rfl rfl (jpe ⟨fun c1 => ?_, fun c1 => ?_⟩)
  ·
    refine x_aloadn (x := 31) rfl rfl ?_
    refine x_iconst (v := (-1)) rfl ki_m1 ?_
    refine x_inv (N := m_X11_refuse) (As := [.int (-1)]) (b := 31) (st := []) (d' := 99) (mc := 0) (ms := 0) (host := "") 11 rfl t_X11_refuse ⟨Or.inl q_11_206, i_X11_refuse.1, i_X11_refuse.2⟩ ⟨by decide, rfl⟩ (congrArg Prod.fst (F.1 31 (11, 13) rfl rfl)) rfl (by decide) rfl rfl ⟨by decide, by decide⟩ (jC.of rfl k_X11_refuse rfl ?_)
    show jX m_X11_refuse 99 0 0 0 [(0, .ref 31), (1, .int (-1))] [] _ 0 0 _
    refine x_aloadn (x := 31) rfl rfl ?_
    refine x_iloadn (x := (-1)) rfl rfl ?_
    refine x_putI 11 12 rfl f_11_94 rfl (jfin_no TX11 RX11 13 rfl rfl) (congrArg Prod.fst (F.1 31 (11, 13) rfl rfl)) rfl ?_
    refine x_iloadn (x := (-1)) rfl rfl ?_
    refine x_iret rfl rfl ?_
    show jX m_X11_hold 100 0 0 20 [(0, .ref 31), (1, .int a1), (2, .int a2), (3, .int a3), (4, .int a4)] [.int (-1)] _ 0 0 _
    refine x_iret rfl rfl ?_
    exact jqe (show sp_hold a1 a2 a3 a4 = (-1) by unfold sp_hold; (repeat' split) <;> first | rfl | (exfalso; omega)) (hQ _ (jFb_si rfl FM) (jOl_si rfl O))
  ·
    refine x_iload (x := a4) rfl rfl ?_
    refine x_inst (N := m_X11_isDay) (As := [.int a4]) (st := []) (d' := 99) (mc := 0) (ms := 0) (host := "") rfl t_X11_isDay ⟨Or.inl q_11_115, s_X11_isDay⟩ rfl (by decide) rfl rfl ⟨by decide, by decide⟩ (c_X11_isDay (x := a4) ?_)
    show jX m_X11_hold 100 0 0 12 [(0, .ref 31), (1, .int a1), (2, .int a2), (3, .int a3), (4, .int a4)] [.int (jp (0 ≤ a4.toInt ∧ a4.toInt ≤ 146399))] _ 0 0 _
    refine x_ifne (tgt := 21) rfl rfl (jpn ⟨fun c2 => ?_, fun c2 => ?_⟩)
    ·
      refine x_aloadn (x := 31) rfl rfl ?_
      refine x_iloadn (x := a1) rfl rfl ?_
      refine x_inv (N := m_X11_isHolding) (As := [.int a1]) (b := 31) (st := []) (d' := 99) (mc := 0) (ms := 0) (host := "") 11 rfl t_X11_isHolding ⟨Or.inl q_11_415, i_X11_isHolding.1, i_X11_isHolding.2⟩ ⟨by decide, rfl⟩ (congrArg Prod.fst (F.1 31 (11, 13) rfl rfl)) rfl (by decide) rfl rfl ⟨by decide, by decide⟩ (jC.of rfl k_X11_isHolding rfl ?_)
      show jX m_X11_isHolding 99 0 0 0 [(0, .ref 31), (1, .int a1)] [] _ 0 0 _
      refine x_iloadn (x := a1) rfl rfl ?_
      refine x_iflt (tgt := 28) rfl rfl (ti_lt (show (a1 : Int32).toInt = a1.toInt from rfl) (show (0 : Int32).toInt = 0 by decide) ⟨fun c3 => ?_, fun c3 => ?_⟩)
      ·
        refine x_iconst (v := 0) rfl ki_0 ?_
        refine x_zret rfl rfl (by first | decide | exact jp_01 _) ?_
        show jX m_X11_hold 100 0 0 26 [(0, .ref 31), (1, .int a1), (2, .int a2), (3, .int a3), (4, .int a4)] [.int 0] _ 0 0 _
        refine x_ifeq (tgt := 45) rfl rfl (br_t (by decide) ?_)
        refine x_aloadn (x := 31) rfl rfl ?_
        refine x_bipush (v := (-2)) rfl kb_m2 ?_
        refine x_inv (N := m_X11_refuse) (As := [.int (-2)]) (b := 31) (st := []) (d' := 99) (mc := 0) (ms := 0) (host := "") 11 rfl t_X11_refuse ⟨Or.inl q_11_206, i_X11_refuse.1, i_X11_refuse.2⟩ ⟨by decide, rfl⟩ (congrArg Prod.fst (F.1 31 (11, 13) rfl rfl)) rfl (by decide) rfl rfl ⟨by decide, by decide⟩ (jC.of rfl k_X11_refuse rfl ?_)
        show jX m_X11_refuse 99 0 0 0 [(0, .ref 31), (1, .int (-2))] [] _ 0 0 _
        refine x_aloadn (x := 31) rfl rfl ?_
        refine x_iloadn (x := (-2)) rfl rfl ?_
        refine x_putI 11 12 rfl f_11_94 rfl (jfin_no TX11 RX11 13 rfl rfl) (congrArg Prod.fst (F.1 31 (11, 13) rfl rfl)) rfl ?_
        refine x_iloadn (x := (-2)) rfl rfl ?_
        refine x_iret rfl rfl ?_
        show jX m_X11_hold 100 0 0 51 [(0, .ref 31), (1, .int a1), (2, .int a2), (3, .int a3), (4, .int a4)] [.int (-2)] _ 0 0 _
        refine x_iret rfl rfl ?_
        exact jqe (show sp_hold a1 a2 a3 a4 = (-2) by unfold sp_hold; (repeat' split) <;> first | rfl | (exfalso; omega)) (hQ _ (jFb_si rfl FM) (jOl_si rfl O))
      ·
        refine x_iloadn (x := a1) rfl rfl ?_
        refine x_aloadn (x := 31) rfl rfl ?_
        refine x_getR (b := 32) 11 0 rfl f_11_10 rfl (congrArg Prod.fst (F.1 31 (11, 13) rfl rfl)) (F.2.1 3968 32 rfl rfl) ?_
        refine x_getR (b := 49) 1 8 rfl f_11_408 rfl (congrArg Prod.fst (F.1 32 (1, 20) rfl rfl)) (F.2.1 4104 49 rfl rfl) ?_
        refine y_getI (v := 0) 8 3 rfl f_11_142 rfl (congrArg Prod.fst (F.1 49 (8, 4) rfl rfl)) (F.2.2.1 6275 0 rfl rfl) ?_
        refine x_icge (tgt := 28) rfl rfl (ti_ge (show (a1 : Int32).toInt = a1.toInt from rfl) (show (0 : Int32).toInt = 0 by decide) ⟨fun c4 => ?_, fun c4 => ?_⟩)
        ·
          refine x_iconst (v := 0) rfl ki_0 ?_
          refine x_zret rfl rfl (by first | decide | exact jp_01 _) ?_
          show jX m_X11_hold 100 0 0 26 [(0, .ref 31), (1, .int a1), (2, .int a2), (3, .int a3), (4, .int a4)] [.int 0] _ 0 0 _
          refine x_ifeq (tgt := 45) rfl rfl (br_t (by decide) ?_)
          refine x_aloadn (x := 31) rfl rfl ?_
          refine x_bipush (v := (-2)) rfl kb_m2 ?_
          refine x_inv (N := m_X11_refuse) (As := [.int (-2)]) (b := 31) (st := []) (d' := 99) (mc := 0) (ms := 0) (host := "") 11 rfl t_X11_refuse ⟨Or.inl q_11_206, i_X11_refuse.1, i_X11_refuse.2⟩ ⟨by decide, rfl⟩ (congrArg Prod.fst (F.1 31 (11, 13) rfl rfl)) rfl (by decide) rfl rfl ⟨by decide, by decide⟩ (jC.of rfl k_X11_refuse rfl ?_)
          show jX m_X11_refuse 99 0 0 0 [(0, .ref 31), (1, .int (-2))] [] _ 0 0 _
          refine x_aloadn (x := 31) rfl rfl ?_
          refine x_iloadn (x := (-2)) rfl rfl ?_
          refine x_putI 11 12 rfl f_11_94 rfl (jfin_no TX11 RX11 13 rfl rfl) (congrArg Prod.fst (F.1 31 (11, 13) rfl rfl)) rfl ?_
          refine x_iloadn (x := (-2)) rfl rfl ?_
          refine x_iret rfl rfl ?_
          show jX m_X11_hold 100 0 0 51 [(0, .ref 31), (1, .int a1), (2, .int a2), (3, .int a3), (4, .int a4)] [.int (-2)] _ 0 0 _
          refine x_iret rfl rfl ?_
          exact jqe (show sp_hold a1 a2 a3 a4 = (-2) by unfold sp_hold; (repeat' split) <;> first | rfl | (exfalso; omega)) (hQ _ (jFb_si rfl FM) (jOl_si rfl O))
        ·
          exfalso
          omega
    ·
      refine x_aloadn (x := 31) rfl rfl ?_
      refine x_iconst (v := (-1)) rfl ki_m1 ?_
      refine x_inv (N := m_X11_refuse) (As := [.int (-1)]) (b := 31) (st := []) (d' := 99) (mc := 0) (ms := 0) (host := "") 11 rfl t_X11_refuse ⟨Or.inl q_11_206, i_X11_refuse.1, i_X11_refuse.2⟩ ⟨by decide, rfl⟩ (congrArg Prod.fst (F.1 31 (11, 13) rfl rfl)) rfl (by decide) rfl rfl ⟨by decide, by decide⟩ (jC.of rfl k_X11_refuse rfl ?_)
      show jX m_X11_refuse 99 0 0 0 [(0, .ref 31), (1, .int (-1))] [] _ 0 0 _
      refine x_aloadn (x := 31) rfl rfl ?_
      refine x_iloadn (x := (-1)) rfl rfl ?_
      refine x_putI 11 12 rfl f_11_94 rfl (jfin_no TX11 RX11 13 rfl rfl) (congrArg Prod.fst (F.1 31 (11, 13) rfl rfl)) rfl ?_
      refine x_iloadn (x := (-1)) rfl rfl ?_
      refine x_iret rfl rfl ?_
      show jX m_X11_hold 100 0 0 20 [(0, .ref 31), (1, .int a1), (2, .int a2), (3, .int a3), (4, .int a4)] [.int (-1)] _ 0 0 _
      refine x_iret rfl rfl ?_
      exact jqe (show sp_hold a1 a2 a3 a4 = (-1) by unfold sp_hold; (repeat' split) <;> first | rfl | (exfalso; omega)) (hQ _ (jFb_si rfl FM) (jOl_si rfl O))
set_option maxRecDepth 100000 in
set_option maxHeartbeats 40000000 in
theorem pm_hold (a1 a2 a3 a4 : Int32) {xs : Nat → Int32} {h : jH} {Q : Option Value → jH → Prop} (F : jFb 125 h) (O : jOl 7 xs h) (hQ : ∀ h', jOl 7 xs h' → Q (some (.int (sp_hold a1 a2 a3 a4))) h') : jC m_X12_hold 100 0 0 [.ref 125, .int a1, .int a2, .int a3, .int a4] h Q := by
  refine jC.of rfl k_X12_hold rfl ?_
  show jX m_X12_hold 100 0 0 0 [(0, .ref 125), (1, .int a1), (2, .int a2), (3, .int a3), (4, .int a4)] [] _ 0 0 _
  refine x_aloadn (x := 125) rfl rfl ?_
  refine x_iconst (v := 0) rfl ki_0 ?_
  refine x_putI 12 0 rfl f_12_180 rfl (jfin_no TX12 RX12 92 rfl rfl) (congrArg Prod.fst (F.1 125 (12, 92) rfl rfl)) rfl ?_
  refine x_iloadn (x := a3) rfl rfl ?_
  refine x_inst (N := m_X12_isDay) (As := [.int a3]) (st := []) (d' := 99) (mc := 0) (ms := 0) (host := "") rfl t_X12_isDay ⟨Or.inl q_12_273, s_X12_isDay⟩ rfl (by decide) rfl rfl ⟨by decide, by decide⟩ (c_X12_isDay (x := a3) ?_)
  show jX m_X12_hold 100 0 0 9 [(0, .ref 125), (1, .int a1), (2, .int a2), (3, .int a3), (4, .int a4)] [.int (jp (0 ≤ a3.toInt ∧ a3.toInt ≤ 146399))] _ 0 0 _
  refine x_ifeq (tgt := 20) rfl rfl (jpe ⟨fun c1 => ?_, fun c1 => ?_⟩)
  ·
    refine x_aloadn (x := 125) rfl rfl ?_
    refine x_iconst (v := (-1)) rfl ki_m1 ?_
    refine x_inv (N := m_X12_told) (As := [.int (-1)]) (b := 125) (st := []) (d' := 99) (mc := 0) (ms := 0) (host := "") 12 rfl t_X12_told ⟨Or.inl q_12_197, i_X12_told.1, i_X12_told.2⟩ ⟨by decide, rfl⟩ (congrArg Prod.fst (sh_si (F.1 125 (12, 92) rfl rfl))) rfl (by decide) rfl rfl ⟨by decide, by decide⟩ (jC.of rfl k_X12_told rfl ?_)
    show jX m_X12_told 99 0 0 0 [(0, .ref 125), (1, .int (-1))] [] _ 0 0 _
    refine x_aloadn (x := 125) rfl rfl ?_
    refine x_iloadn (x := (-1)) rfl rfl ?_
    refine x_ifge (tgt := 9) rfl rfl (br_f (by decide) ?_)
    refine x_iloadn (x := (-1)) rfl rfl ?_
    refine x_goto (tgt := 10) rfl rfl ?_
    refine x_putI 12 1 rfl f_12_183 rfl (jfin_no TX12 RX12 92 rfl rfl) (congrArg Prod.fst (sh_si (F.1 125 (12, 92) rfl rfl))) rfl ?_
    refine x_iloadn (x := (-1)) rfl rfl ?_
    refine x_iret rfl rfl ?_
    show jX m_X12_hold 100 0 0 25 [(0, .ref 125), (1, .int a1), (2, .int a2), (3, .int a3), (4, .int a4)] [.int (-1)] _ 0 0 _
    refine x_iret rfl rfl ?_
    exact jqe (show sp_hold a1 a2 a3 a4 = (-1) by unfold sp_hold; (repeat' split) <;> first | rfl | (exfalso; omega)) (hQ _ (jOl_si rfl (jOl_si rfl O)))
  ·
    refine x_iload (x := a4) rfl rfl ?_
    refine x_inst (N := m_X12_isDay) (As := [.int a4]) (st := []) (d' := 99) (mc := 0) (ms := 0) (host := "") rfl t_X12_isDay ⟨Or.inl q_12_273, s_X12_isDay⟩ rfl (by decide) rfl rfl ⟨by decide, by decide⟩ (c_X12_isDay (x := a4) ?_)
    show jX m_X12_hold 100 0 0 17 [(0, .ref 125), (1, .int a1), (2, .int a2), (3, .int a3), (4, .int a4)] [.int (jp (0 ≤ a4.toInt ∧ a4.toInt ≤ 146399))] _ 0 0 _
    refine x_ifne (tgt := 26) rfl rfl (jpn ⟨fun c2 => ?_, fun c2 => ?_⟩)
    ·
      refine x_aloadn (x := 125) rfl rfl ?_
      refine x_iloadn (x := a1) rfl rfl ?_
      refine x_inv (N := m_X12_isHolding) (As := [.int a1]) (b := 125) (st := []) (d' := 99) (mc := 0) (ms := 0) (host := "") 12 rfl t_X12_isHolding ⟨Or.inl q_12_811, i_X12_isHolding.1, i_X12_isHolding.2⟩ ⟨by decide, rfl⟩ (congrArg Prod.fst (sh_si (F.1 125 (12, 92) rfl rfl))) rfl (by decide) rfl rfl ⟨by decide, by decide⟩ (jC.of rfl k_X12_isHolding rfl ?_)
      show jX m_X12_isHolding 99 0 0 0 [(0, .ref 125), (1, .int a1)] [] _ 0 0 _
      refine x_iloadn (x := a1) rfl rfl ?_
      refine x_i2l rfl ?_
      refine x_lconst (v := 0) rfl kl_0 ?_
      refine x_aloadn (x := 125) rfl rfl ?_
      refine x_getR (b := 126) 12 2 rfl f_12_8 rfl (congrArg Prod.fst (sh_si (F.1 125 (12, 92) rfl rfl))) (rv_si (F.2.1 16002 126 rfl rfl)) ?_
      refine x_bipush (v := 7) rfl kb_7 ?_
      refine y_iald (v := 0) (N := 50660) 7 rfl (sh_si (F.1 126 (100, 50660) rfl rfl)) (jinb_of (by decide)) (by decide) (iv_si rfl (F.2.2.2.1 126 rfl rfl 7).1) ?_
      refine y_i2l (v := 0) rfl (by decide) ?_
      refine x_lconst (v := 1) rfl kl_1 ?_
      refine y_lsub (v := (-1)) rfl (by decide) ?_
      refine x_inst (N := m_X12_in) (As := [.long (a1.toInt64), .long 0, .long (-1)]) (st := []) (d' := 98) (mc := 0) (ms := 0) (host := "") rfl t_X12_in ⟨Or.inl q_12_188, s_X12_in⟩ rfl (by decide) rfl rfl ⟨by decide, by decide⟩ (c_X12_in (m := a1.toInt) (a := 0) (b := (-1)) (jt_l _) (by decide) (by decide) ?_)
      show jX m_X12_isHolding 99 0 0 16 [(0, .ref 125), (1, .int a1)] [.int (jp (0 ≤ a1.toInt ∧ a1.toInt ≤ (-1)))] _ 0 0 _
      refine x_zret rfl rfl (by first | decide | exact jp_01 _) ?_
      show jX m_X12_hold 100 0 0 31 [(0, .ref 125), (1, .int a1), (2, .int a2), (3, .int a3), (4, .int a4)] [.int (jp (0 ≤ a1.toInt ∧ a1.toInt ≤ (-1)))] _ 0 0 _
      refine x_ifeq (tgt := 47) rfl rfl (jpe ⟨fun c3 => ?_, fun c3 => ?_⟩)
      ·
        refine x_aloadn (x := 125) rfl rfl ?_
        refine x_bipush (v := (-2)) rfl kb_m2 ?_
        refine x_inv (N := m_X12_told) (As := [.int (-2)]) (b := 125) (st := []) (d' := 99) (mc := 0) (ms := 0) (host := "") 12 rfl t_X12_told ⟨Or.inl q_12_197, i_X12_told.1, i_X12_told.2⟩ ⟨by decide, rfl⟩ (congrArg Prod.fst (sh_si (F.1 125 (12, 92) rfl rfl))) rfl (by decide) rfl rfl ⟨by decide, by decide⟩ (jC.of rfl k_X12_told rfl ?_)
        show jX m_X12_told 99 0 0 0 [(0, .ref 125), (1, .int (-2))] [] _ 0 0 _
        refine x_aloadn (x := 125) rfl rfl ?_
        refine x_iloadn (x := (-2)) rfl rfl ?_
        refine x_ifge (tgt := 9) rfl rfl (br_f (by decide) ?_)
        refine x_iloadn (x := (-2)) rfl rfl ?_
        refine x_goto (tgt := 10) rfl rfl ?_
        refine x_putI 12 1 rfl f_12_183 rfl (jfin_no TX12 RX12 92 rfl rfl) (congrArg Prod.fst (sh_si (F.1 125 (12, 92) rfl rfl))) rfl ?_
        refine x_iloadn (x := (-2)) rfl rfl ?_
        refine x_iret rfl rfl ?_
        show jX m_X12_hold 100 0 0 53 [(0, .ref 125), (1, .int a1), (2, .int a2), (3, .int a3), (4, .int a4)] [.int (-2)] _ 0 0 _
        refine x_iret rfl rfl ?_
        exact jqe (show sp_hold a1 a2 a3 a4 = (-2) by unfold sp_hold; (repeat' split) <;> first | rfl | (exfalso; omega)) (hQ _ (jOl_si rfl (jOl_si rfl O)))
      ·
        exfalso
        omega
    ·
      refine x_aloadn (x := 125) rfl rfl ?_
      refine x_iconst (v := (-1)) rfl ki_m1 ?_
      refine x_inv (N := m_X12_told) (As := [.int (-1)]) (b := 125) (st := []) (d' := 99) (mc := 0) (ms := 0) (host := "") 12 rfl t_X12_told ⟨Or.inl q_12_197, i_X12_told.1, i_X12_told.2⟩ ⟨by decide, rfl⟩ (congrArg Prod.fst (sh_si (F.1 125 (12, 92) rfl rfl))) rfl (by decide) rfl rfl ⟨by decide, by decide⟩ (jC.of rfl k_X12_told rfl ?_)
      show jX m_X12_told 99 0 0 0 [(0, .ref 125), (1, .int (-1))] [] _ 0 0 _
      refine x_aloadn (x := 125) rfl rfl ?_
      refine x_iloadn (x := (-1)) rfl rfl ?_
      refine x_ifge (tgt := 9) rfl rfl (br_f (by decide) ?_)
      refine x_iloadn (x := (-1)) rfl rfl ?_
      refine x_goto (tgt := 10) rfl rfl ?_
      refine x_putI 12 1 rfl f_12_183 rfl (jfin_no TX12 RX12 92 rfl rfl) (congrArg Prod.fst (sh_si (F.1 125 (12, 92) rfl rfl))) rfl ?_
      refine x_iloadn (x := (-1)) rfl rfl ?_
      refine x_iret rfl rfl ?_
      show jX m_X12_hold 100 0 0 25 [(0, .ref 125), (1, .int a1), (2, .int a2), (3, .int a3), (4, .int a4)] [.int (-1)] _ 0 0 _
      refine x_iret rfl rfl ?_
      exact jqe (show sp_hold a1 a2 a3 a4 = (-1) by unfold sp_hold; (repeat' split) <;> first | rfl | (exfalso; omega)) (hQ _ (jOl_si rfl (jOl_si rfl O)))
def sp_house (a1 a2 a3 a4 : Int32) : Int32 := (-1)
set_option maxRecDepth 100000 in
set_option maxHeartbeats 40000000 in
theorem px_house (a1 a2 a3 a4 : Int32) {xs : Nat → Int32} {h : jH} {Q : Option Value → jH → Prop} (F : jFb 31 h) (O : jOl 7 xs h) (hQ : ∀ h', jFb 125 h' → jOl 7 xs h' → Q (some (.int (sp_house a1 a2 a3 a4))) h') : jC m_X11_house 100 0 0 [.ref 31, .int a1, .int a2, .int a3, .int a4] h Q := by
  have FM := jFb_up 125 rfl F
  refine jC.of rfl k_X11_house rfl ?_
  show jX m_X11_house 100 0 0 0 [(0, .ref 31), (1, .int a1), (2, .int a2), (3, .int a3), (4, .int a4)] [] _ 0 0 _
  refine x_aloadn (x := 31) rfl rfl ?_
  refine x_iloadn (x := a1) rfl rfl ?_
  refine x_inv (N := m_X11_isHolding) (As := [.int a1]) (b := 31) (st := []) (d' := 99) (mc := 0) (ms := 0) (host := "") 11 rfl t_X11_isHolding ⟨Or.inl q_11_415, i_X11_isHolding.1, i_X11_isHolding.2⟩ ⟨by decide, rfl⟩ (congrArg Prod.fst (F.1 31 (11, 13) rfl rfl)) rfl (by decide) rfl rfl ⟨by decide, by decide⟩ (jC.of rfl k_X11_isHolding rfl ?_)
  show jX m_X11_isHolding 99 0 0 0 [(0, .ref 31), (1, .int a1)] [] _ 0 0 _
  refine x_iloadn (x := a1) rfl rfl ?_
  refine x_iflt (tgt := 28) rfl rfl (ti_lt (show (a1 : Int32).toInt = a1.toInt from rfl) (show (0 : Int32).toInt = 0 by decide) ⟨fun c1 => ?_, fun c1 => ?_⟩)
  ·
    refine x_iconst (v := 0) rfl ki_0 ?_
    refine x_zret rfl rfl (by first | decide | exact jp_01 _) ?_
    show jX m_X11_house 100 0 0 5 [(0, .ref 31), (1, .int a1), (2, .int a2), (3, .int a3), (4, .int a4)] [.int 0] _ 0 0 _
    refine x_ifeq (tgt := 33) rfl rfl (br_t (by decide) ?_)
    refine x_iconst (v := (-1)) rfl ki_m1 ?_
    refine x_iret rfl rfl ?_
    exact jqe (show sp_house a1 a2 a3 a4 = (-1) by unfold sp_house; (repeat' split) <;> first | rfl | (exfalso; omega)) (hQ _ FM O)
  ·
    refine x_iloadn (x := a1) rfl rfl ?_
    refine x_aloadn (x := 31) rfl rfl ?_
    refine x_getR (b := 32) 11 0 rfl f_11_10 rfl (congrArg Prod.fst (F.1 31 (11, 13) rfl rfl)) (F.2.1 3968 32 rfl rfl) ?_
    refine x_getR (b := 49) 1 8 rfl f_11_408 rfl (congrArg Prod.fst (F.1 32 (1, 20) rfl rfl)) (F.2.1 4104 49 rfl rfl) ?_
    refine y_getI (v := 0) 8 3 rfl f_11_142 rfl (congrArg Prod.fst (F.1 49 (8, 4) rfl rfl)) (F.2.2.1 6275 0 rfl rfl) ?_
    refine x_icge (tgt := 28) rfl rfl (ti_ge (show (a1 : Int32).toInt = a1.toInt from rfl) (show (0 : Int32).toInt = 0 by decide) ⟨fun c2 => ?_, fun c2 => ?_⟩)
    ·
      refine x_iconst (v := 0) rfl ki_0 ?_
      refine x_zret rfl rfl (by first | decide | exact jp_01 _) ?_
      show jX m_X11_house 100 0 0 5 [(0, .ref 31), (1, .int a1), (2, .int a2), (3, .int a3), (4, .int a4)] [.int 0] _ 0 0 _
      refine x_ifeq (tgt := 33) rfl rfl (br_t (by decide) ?_)
      refine x_iconst (v := (-1)) rfl ki_m1 ?_
      refine x_iret rfl rfl ?_
      exact jqe (show sp_house a1 a2 a3 a4 = (-1) by unfold sp_house; (repeat' split) <;> first | rfl | (exfalso; omega)) (hQ _ FM O)
    ·
      exfalso
      omega
set_option maxRecDepth 100000 in
set_option maxHeartbeats 40000000 in
theorem pm_house (a1 a2 a3 a4 : Int32) {xs : Nat → Int32} {h : jH} {Q : Option Value → jH → Prop} (F : jFb 125 h) (O : jOl 7 xs h) (hQ : ∀ h', jOl 7 xs h' → Q (some (.int (sp_house a1 a2 a3 a4))) h') : jC m_X12_house 100 0 0 [.ref 125, .int a1, .int a2, .int a3, .int a4] h Q := by
  refine jC.of rfl k_X12_house rfl ?_
  show jX m_X12_house 100 0 0 0 [(0, .ref 125), (1, .int a1), (2, .int a2), (3, .int a3), (4, .int a4)] [] _ 0 0 _
  refine x_aloadn (x := 125) rfl rfl ?_
  refine x_iconst (v := 0) rfl ki_0 ?_
  refine x_putI 12 0 rfl f_12_180 rfl (jfin_no TX12 RX12 92 rfl rfl) (congrArg Prod.fst (F.1 125 (12, 92) rfl rfl)) rfl ?_
  refine x_aloadn (x := 125) rfl rfl ?_
  refine x_iloadn (x := a1) rfl rfl ?_
  refine x_inv (N := m_X12_isHolding) (As := [.int a1]) (b := 125) (st := []) (d' := 99) (mc := 0) (ms := 0) (host := "") 12 rfl t_X12_isHolding ⟨Or.inl q_12_811, i_X12_isHolding.1, i_X12_isHolding.2⟩ ⟨by decide, rfl⟩ (congrArg Prod.fst (sh_si (F.1 125 (12, 92) rfl rfl))) rfl (by decide) rfl rfl ⟨by decide, by decide⟩ (jC.of rfl k_X12_isHolding rfl ?_)
  show jX m_X12_isHolding 99 0 0 0 [(0, .ref 125), (1, .int a1)] [] _ 0 0 _
  refine x_iloadn (x := a1) rfl rfl ?_
  refine x_i2l rfl ?_
  refine x_lconst (v := 0) rfl kl_0 ?_
  refine x_aloadn (x := 125) rfl rfl ?_
  refine x_getR (b := 126) 12 2 rfl f_12_8 rfl (congrArg Prod.fst (sh_si (F.1 125 (12, 92) rfl rfl))) (rv_si (F.2.1 16002 126 rfl rfl)) ?_
  refine x_bipush (v := 7) rfl kb_7 ?_
  refine y_iald (v := 0) (N := 50660) 7 rfl (sh_si (F.1 126 (100, 50660) rfl rfl)) (jinb_of (by decide)) (by decide) (iv_si rfl (F.2.2.2.1 126 rfl rfl 7).1) ?_
  refine y_i2l (v := 0) rfl (by decide) ?_
  refine x_lconst (v := 1) rfl kl_1 ?_
  refine y_lsub (v := (-1)) rfl (by decide) ?_
  refine x_inst (N := m_X12_in) (As := [.long (a1.toInt64), .long 0, .long (-1)]) (st := []) (d' := 98) (mc := 0) (ms := 0) (host := "") rfl t_X12_in ⟨Or.inl q_12_188, s_X12_in⟩ rfl (by decide) rfl rfl ⟨by decide, by decide⟩ (c_X12_in (m := a1.toInt) (a := 0) (b := (-1)) (jt_l _) (by decide) (by decide) ?_)
  show jX m_X12_isHolding 99 0 0 16 [(0, .ref 125), (1, .int a1)] [.int (jp (0 ≤ a1.toInt ∧ a1.toInt ≤ (-1)))] _ 0 0 _
  refine x_zret rfl rfl (by first | decide | exact jp_01 _) ?_
  show jX m_X12_house 100 0 0 10 [(0, .ref 125), (1, .int a1), (2, .int a2), (3, .int a3), (4, .int a4)] [.int (jp (0 ≤ a1.toInt ∧ a1.toInt ≤ (-1)))] _ 0 0 _
  refine x_ifeq (tgt := 38) rfl rfl (jpe ⟨fun c1 => ?_, fun c1 => ?_⟩)
  ·
    refine x_iconst (v := (-1)) rfl ki_m1 ?_
    refine x_iret rfl rfl ?_
    exact jqe (show sp_house a1 a2 a3 a4 = (-1) by unfold sp_house; (repeat' split) <;> first | rfl | (exfalso; omega)) (hQ _ (jOl_si rfl O))
  ·
    exfalso
    omega
def sp_levy (a1 a2 a3 a4 : Int32) : Int32 := if (0 ≤ a1.toInt ∧ a1.toInt ≤ 2) ∧ (0 ≤ a2.toInt ∧ a2.toInt ≤ 399) ∧ (0 ≤ a3.toInt ∧ a3.toInt ≤ 1000000) ∧ (0 ≤ a4.toInt ∧ a4.toInt ≤ 146399) then 0 else (-1)
set_option maxRecDepth 100000 in
set_option maxHeartbeats 40000000 in
theorem px_levy (a1 a2 a3 a4 : Int32) {xs : Nat → Int32} {h : jH} {Q : Option Value → jH → Prop} (F : jFb 31 h) (O : jOl 7 xs h) (hQ : ∀ h', jFb 125 h' → jOl 7 xs h' → Q (some (.int (sp_levy a1 a2 a3 a4))) h') : jC m_X11_levy 100 0 0 [.ref 31, .int a1, .int a2, .int a3, .int a4] h Q := by
  have FM := jFb_up 125 rfl F
  refine jC.of rfl k_X11_levy rfl ?_
  show jX m_X11_levy 100 0 0 0 [(0, .ref 31), (1, .int a1), (2, .int a2), (3, .int a3), (4, .int a4)] [] _ 0 0 _
  refine x_iloadn (x := a1) rfl rfl ?_
  refine x_iflt (tgt := 35) rfl rfl (ti_lt (show (a1 : Int32).toInt = a1.toInt from rfl) (show (0 : Int32).toInt = 0 by decide) ⟨fun c1 => ?_, fun c1 => ?_⟩)
  ·
    refine x_aloadn (x := 31) rfl rfl ?_
    refine x_iconst (v := (-1)) rfl ki_m1 ?_
    refine x_inv (N := m_X11_refuse) (As := [.int (-1)]) (b := 31) (st := []) (d' := 99) (mc := 0) (ms := 0) (host := "") 11 rfl t_X11_refuse ⟨Or.inl q_11_206, i_X11_refuse.1, i_X11_refuse.2⟩ ⟨by decide, rfl⟩ (congrArg Prod.fst (F.1 31 (11, 13) rfl rfl)) rfl (by decide) rfl rfl ⟨by decide, by decide⟩ (jC.of rfl k_X11_refuse rfl ?_)
    show jX m_X11_refuse 99 0 0 0 [(0, .ref 31), (1, .int (-1))] [] _ 0 0 _
    refine x_aloadn (x := 31) rfl rfl ?_
    refine x_iloadn (x := (-1)) rfl rfl ?_
    refine x_putI 11 12 rfl f_11_94 rfl (jfin_no TX11 RX11 13 rfl rfl) (congrArg Prod.fst (F.1 31 (11, 13) rfl rfl)) rfl ?_
    refine x_iloadn (x := (-1)) rfl rfl ?_
    refine x_iret rfl rfl ?_
    show jX m_X11_levy 100 0 0 40 [(0, .ref 31), (1, .int a1), (2, .int a2), (3, .int a3), (4, .int a4)] [.int (-1)] _ 0 0 _
    refine x_iret rfl rfl ?_
    exact jqe (show sp_levy a1 a2 a3 a4 = (-1) by unfold sp_levy; (repeat' split) <;> first | rfl | (exfalso; omega)) (hQ _ (jFb_si rfl FM) (jOl_si rfl O))
  ·
    refine x_iloadn (x := a1) rfl rfl ?_
    refine x_iconst (v := 2) rfl ki_2 ?_
    refine x_icgt (tgt := 35) rfl rfl (ti_gt (show (a1 : Int32).toInt = a1.toInt from rfl) (show (2 : Int32).toInt = 2 by decide) ⟨fun c2 => ?_, fun c2 => ?_⟩)
    ·
      refine x_aloadn (x := 31) rfl rfl ?_
      refine x_iconst (v := (-1)) rfl ki_m1 ?_
      refine x_inv (N := m_X11_refuse) (As := [.int (-1)]) (b := 31) (st := []) (d' := 99) (mc := 0) (ms := 0) (host := "") 11 rfl t_X11_refuse ⟨Or.inl q_11_206, i_X11_refuse.1, i_X11_refuse.2⟩ ⟨by decide, rfl⟩ (congrArg Prod.fst (F.1 31 (11, 13) rfl rfl)) rfl (by decide) rfl rfl ⟨by decide, by decide⟩ (jC.of rfl k_X11_refuse rfl ?_)
      show jX m_X11_refuse 99 0 0 0 [(0, .ref 31), (1, .int (-1))] [] _ 0 0 _
      refine x_aloadn (x := 31) rfl rfl ?_
      refine x_iloadn (x := (-1)) rfl rfl ?_
      refine x_putI 11 12 rfl f_11_94 rfl (jfin_no TX11 RX11 13 rfl rfl) (congrArg Prod.fst (F.1 31 (11, 13) rfl rfl)) rfl ?_
      refine x_iloadn (x := (-1)) rfl rfl ?_
      refine x_iret rfl rfl ?_
      show jX m_X11_levy 100 0 0 40 [(0, .ref 31), (1, .int a1), (2, .int a2), (3, .int a3), (4, .int a4)] [.int (-1)] _ 0 0 _
      refine x_iret rfl rfl ?_
      exact jqe (show sp_levy a1 a2 a3 a4 = (-1) by unfold sp_levy; (repeat' split) <;> first | rfl | (exfalso; omega)) (hQ _ (jFb_si rfl FM) (jOl_si rfl O))
    ·
      refine x_iloadn (x := a2) rfl rfl ?_
      refine x_inst (N := m_X11_isYear) (As := [.int a2]) (st := []) (d' := 99) (mc := 0) (ms := 0) (host := "") rfl t_X11_isYear ⟨Or.inl q_11_433, s_X11_isYear⟩ rfl (by decide) rfl rfl ⟨by decide, by decide⟩ (c_X11_isYear (x := a2) ?_)
      show jX m_X11_levy 100 0 0 13 [(0, .ref 31), (1, .int a1), (2, .int a2), (3, .int a3), (4, .int a4)] [.int (jp (0 ≤ a2.toInt ∧ a2.toInt ≤ 399))] _ 0 0 _
      refine x_ifeq (tgt := 35) rfl rfl (jpe ⟨fun c3 => ?_, fun c3 => ?_⟩)
      ·
        refine x_aloadn (x := 31) rfl rfl ?_
        refine x_iconst (v := (-1)) rfl ki_m1 ?_
        refine x_inv (N := m_X11_refuse) (As := [.int (-1)]) (b := 31) (st := []) (d' := 99) (mc := 0) (ms := 0) (host := "") 11 rfl t_X11_refuse ⟨Or.inl q_11_206, i_X11_refuse.1, i_X11_refuse.2⟩ ⟨by decide, rfl⟩ (congrArg Prod.fst (F.1 31 (11, 13) rfl rfl)) rfl (by decide) rfl rfl ⟨by decide, by decide⟩ (jC.of rfl k_X11_refuse rfl ?_)
        show jX m_X11_refuse 99 0 0 0 [(0, .ref 31), (1, .int (-1))] [] _ 0 0 _
        refine x_aloadn (x := 31) rfl rfl ?_
        refine x_iloadn (x := (-1)) rfl rfl ?_
        refine x_putI 11 12 rfl f_11_94 rfl (jfin_no TX11 RX11 13 rfl rfl) (congrArg Prod.fst (F.1 31 (11, 13) rfl rfl)) rfl ?_
        refine x_iloadn (x := (-1)) rfl rfl ?_
        refine x_iret rfl rfl ?_
        show jX m_X11_levy 100 0 0 40 [(0, .ref 31), (1, .int a1), (2, .int a2), (3, .int a3), (4, .int a4)] [.int (-1)] _ 0 0 _
        refine x_iret rfl rfl ?_
        exact jqe (show sp_levy a1 a2 a3 a4 = (-1) by unfold sp_levy; (repeat' split) <;> first | rfl | (exfalso; omega)) (hQ _ (jFb_si rfl FM) (jOl_si rfl O))
      ·
        refine x_iloadn (x := a3) rfl rfl ?_
        refine x_iconst (v := 0) rfl ki_0 ?_
        refine x_ldcw (v := 1000000) rfl z_11_436 ?_
        refine x_inst (N := m_X11_isWithin) (As := [.int a3, .int 0, .int 1000000]) (st := []) (d' := 99) (mc := 0) (ms := 0) (host := "") rfl t_X11_isWithin ⟨Or.inl q_11_202, s_X11_isWithin⟩ rfl (by decide) rfl rfl ⟨by decide, by decide⟩ (c_X11_isWithin (m := a3.toInt) (i := 0) (j := 1000000) rfl (by decide) (by decide) ?_)
        show jX m_X11_levy 100 0 0 24 [(0, .ref 31), (1, .int a1), (2, .int a2), (3, .int a3), (4, .int a4)] [.int (jp (0 ≤ a3.toInt ∧ a3.toInt ≤ 1000000))] _ 0 0 _
        refine x_ifeq (tgt := 35) rfl rfl (jpe ⟨fun c4 => ?_, fun c4 => ?_⟩)
        ·
          refine x_aloadn (x := 31) rfl rfl ?_
          refine x_iconst (v := (-1)) rfl ki_m1 ?_
          refine x_inv (N := m_X11_refuse) (As := [.int (-1)]) (b := 31) (st := []) (d' := 99) (mc := 0) (ms := 0) (host := "") 11 rfl t_X11_refuse ⟨Or.inl q_11_206, i_X11_refuse.1, i_X11_refuse.2⟩ ⟨by decide, rfl⟩ (congrArg Prod.fst (F.1 31 (11, 13) rfl rfl)) rfl (by decide) rfl rfl ⟨by decide, by decide⟩ (jC.of rfl k_X11_refuse rfl ?_)
          show jX m_X11_refuse 99 0 0 0 [(0, .ref 31), (1, .int (-1))] [] _ 0 0 _
          refine x_aloadn (x := 31) rfl rfl ?_
          refine x_iloadn (x := (-1)) rfl rfl ?_
          refine x_putI 11 12 rfl f_11_94 rfl (jfin_no TX11 RX11 13 rfl rfl) (congrArg Prod.fst (F.1 31 (11, 13) rfl rfl)) rfl ?_
          refine x_iloadn (x := (-1)) rfl rfl ?_
          refine x_iret rfl rfl ?_
          show jX m_X11_levy 100 0 0 40 [(0, .ref 31), (1, .int a1), (2, .int a2), (3, .int a3), (4, .int a4)] [.int (-1)] _ 0 0 _
          refine x_iret rfl rfl ?_
          exact jqe (show sp_levy a1 a2 a3 a4 = (-1) by unfold sp_levy; (repeat' split) <;> first | rfl | (exfalso; omega)) (hQ _ (jFb_si rfl FM) (jOl_si rfl O))
        ·
          refine x_iload (x := a4) rfl rfl ?_
          refine x_inst (N := m_X11_isDay) (As := [.int a4]) (st := []) (d' := 99) (mc := 0) (ms := 0) (host := "") rfl t_X11_isDay ⟨Or.inl q_11_115, s_X11_isDay⟩ rfl (by decide) rfl rfl ⟨by decide, by decide⟩ (c_X11_isDay (x := a4) ?_)
          show jX m_X11_levy 100 0 0 32 [(0, .ref 31), (1, .int a1), (2, .int a2), (3, .int a3), (4, .int a4)] [.int (jp (0 ≤ a4.toInt ∧ a4.toInt ≤ 146399))] _ 0 0 _
          refine x_ifne (tgt := 41) rfl rfl (jpn ⟨fun c5 => ?_, fun c5 => ?_⟩)
          ·
            refine x_aloadn (x := 31) rfl rfl ?_
            refine x_getR (b := 32) 11 0 rfl f_11_10 rfl (congrArg Prod.fst (F.1 31 (11, 13) rfl rfl)) (F.2.1 3968 32 rfl rfl) ?_
            refine x_getR (b := 53) 1 10 rfl f_11_437 rfl (congrArg Prod.fst (F.1 32 (1, 20) rfl rfl)) (F.2.1 4106 53 rfl rfl) ?_
            refine x_inv (N := m_X8_isFull) (As := []) (b := 53) (st := []) (d' := 99) (mc := 0) (ms := 0) (host := "") 8 rfl t_X8_isFull ⟨Or.inl q_11_130, i_X8_isFull.1, i_X8_isFull.2⟩ ⟨by decide, rfl⟩ (congrArg Prod.fst (F.1 53 (8, 4) rfl rfl)) rfl (by decide) rfl rfl ⟨by decide, by decide⟩ (jC.of rfl k_X8_isFull rfl ?_)
            show jX m_X8_isFull 99 0 0 0 [(0, .ref 53)] [] _ 0 0 _
            refine x_aloadn (x := 53) rfl rfl ?_
            refine y_getI (v := 0) 8 3 rfl f_8_7 rfl (congrArg Prod.fst (F.1 53 (8, 4) rfl rfl)) (F.2.2.1 6787 0 rfl rfl) ?_
            refine x_aloadn (x := 53) rfl rfl ?_
            refine y_getI (v := 40) 8 1 rfl f_8_22 rfl (congrArg Prod.fst (F.1 53 (8, 4) rfl rfl)) (F.2.2.1 6785 40 rfl rfl) ?_
            refine x_iclt (tgt := 15) rfl rfl (br_t (by decide) ?_)
            refine x_iconst (v := 0) rfl ki_0 ?_
            refine x_zret rfl rfl (by first | decide | exact jp_01 _) ?_
            show jX m_X11_levy 100 0 0 51 [(0, .ref 31), (1, .int a1), (2, .int a2), (3, .int a3), (4, .int a4)] [.int 0] _ 0 0 _
            refine x_ifeq (tgt := 61) rfl rfl (br_t (by decide) ?_)
            refine x_aloadn (x := 31) rfl rfl ?_
            refine x_getR (b := 32) 11 0 rfl f_11_10 rfl (congrArg Prod.fst (F.1 31 (11, 13) rfl rfl)) (F.2.1 3968 32 rfl rfl) ?_
            refine x_getR (b := 53) 1 10 rfl f_11_437 rfl (congrArg Prod.fst (F.1 32 (1, 20) rfl rfl)) (F.2.1 4106 53 rfl rfl) ?_
            refine x_iload (x := a4) rfl rfl ?_
            refine x_iloadn (x := a2) rfl rfl ?_
            refine x_iloadn (x := a1) rfl rfl ?_
            refine x_iloadn (x := a3) rfl rfl ?_
            refine x_iconst (v := 0) rfl ki_0 ?_
            refine x_iconst (v := 0) rfl ki_0 ?_
            refine x_inv (N := m_X8_add) (As := [.int a4, .int a2, .int a1, .int a3, .int 0, .int 0]) (b := 53) (st := []) (d' := 99) (mc := 0) (ms := 0) (host := "") 8 rfl t_X8_add ⟨Or.inl q_11_145, i_X8_add.1, i_X8_add.2⟩ ⟨by decide, rfl⟩ (congrArg Prod.fst (F.1 53 (8, 4) rfl rfl)) rfl (by decide) rfl rfl ⟨by decide, by decide⟩ (jC.of rfl k_X8_add rfl ?_)
            show jX m_X8_add 99 0 0 0 [(0, .ref 53), (1, .int a4), (2, .int a2), (3, .int a1), (4, .int a3), (5, .int 0), (6, .int 0)] [] _ 0 0 _
            refine x_aloadn (x := 53) rfl rfl ?_
            refine y_getI (v := 0) 8 3 rfl f_8_7 rfl (congrArg Prod.fst (F.1 53 (8, 4) rfl rfl)) (F.2.2.1 6787 0 rfl rfl) ?_
            refine x_aloadn (x := 53) rfl rfl ?_
            refine y_getI (v := 40) 8 1 rfl f_8_22 rfl (congrArg Prod.fst (F.1 53 (8, 4) rfl rfl)) (F.2.2.1 6785 40 rfl rfl) ?_
            refine x_iclt (tgt := 12) rfl rfl (br_t (by decide) ?_)
            refine x_aloadn (x := 53) rfl rfl ?_
            refine y_getI (v := 0) 8 3 rfl f_8_7 rfl (congrArg Prod.fst (F.1 53 (8, 4) rfl rfl)) (F.2.2.1 6787 0 rfl rfl) ?_
            refine x_istore (ls' := [(7, .int 0), (0, .ref 53), (1, .int a4), (2, .int a2), (3, .int a1), (4, .int a3), (5, .int 0), (6, .int 0)]) rfl rfl rfl ?_
            refine x_aloadn (x := 53) rfl rfl ?_
            refine x_iload (x := 0) rfl rfl ?_
            refine x_iconst (v := 1) rfl ki_1 ?_
            refine y_iadd (v := 1) rfl (by decide) ?_
            refine x_putI 8 3 rfl f_8_7 rfl (jfin_no TX8 RX8 4 rfl rfl) (congrArg Prod.fst (F.1 53 (8, 4) rfl rfl)) rfl ?_
            refine x_aloadn (x := 53) rfl rfl ?_
            refine x_iload (x := 0) rfl rfl ?_
            refine x_iconst (v := 0) rfl ki_0 ?_
            refine x_iloadn (x := a4) rfl rfl ?_
            refine x_inv (N := m_X8_put) (As := [.int 0, .int 0, .int a4]) (b := 53) (st := []) (d' := 98) (mc := 0) (ms := 0) (host := "") 8 rfl t_X8_put ⟨Or.inl q_8_29, i_X8_put.1, i_X8_put.2⟩ ⟨by decide, rfl⟩ (congrArg Prod.fst (sh_si (F.1 53 (8, 4) rfl rfl))) rfl (by decide) rfl rfl ⟨by decide, by decide⟩ (jC.of rfl k_X8_put rfl ?_)
            show jX m_X8_put 98 0 0 0 [(0, .ref 53), (1, .int 0), (2, .int 0), (3, .int a4)] [] _ 0 0 _
            refine x_iloadn (x := 0) rfl rfl ?_
            refine x_iflt (tgt := 38) rfl rfl (br_f (by decide) ?_)
            refine x_iloadn (x := 0) rfl rfl ?_
            refine x_aloadn (x := 53) rfl rfl ?_
            refine y_getI (v := 1) 8 3 rfl f_8_7 rfl (congrArg Prod.fst (sh_si (F.1 53 (8, 4) rfl rfl))) iv_eq ?_
            refine x_icge (tgt := 38) rfl rfl (br_f (by decide) ?_)
            refine x_iloadn (x := 0) rfl rfl ?_
            refine x_iflt (tgt := 38) rfl rfl (br_f (by decide) ?_)
            refine x_iloadn (x := 0) rfl rfl ?_
            refine x_aloadn (x := 53) rfl rfl ?_
            refine y_getI (v := 4) 8 0 rfl f_8_19 rfl (congrArg Prod.fst (sh_si (F.1 53 (8, 4) rfl rfl))) (iv_si rfl (F.2.2.1 6784 4 rfl rfl)) ?_
            refine x_icge (tgt := 38) rfl rfl (br_f (by decide) ?_)
            refine x_aloadn (x := 53) rfl rfl ?_
            refine x_getR (b := 54) 8 2 rfl f_8_25 rfl (congrArg Prod.fst (sh_si (F.1 53 (8, 4) rfl rfl))) (rv_si (F.2.1 6786 54 rfl rfl)) ?_
            refine x_iloadn (x := 0) rfl rfl ?_
            refine x_aloadn (x := 53) rfl rfl ?_
            refine y_getI (v := 4) 8 0 rfl f_8_19 rfl (congrArg Prod.fst (sh_si (F.1 53 (8, 4) rfl rfl))) (iv_si rfl (F.2.2.1 6784 4 rfl rfl)) ?_
            refine y_imul (v := 0) rfl (by decide) ?_
            refine x_iloadn (x := 0) rfl rfl ?_
            refine y_iadd (v := 0) rfl (by decide) ?_
            refine x_iloadn (x := a4) rfl rfl ?_
            refine y_iast (N := 160) 0 rfl (sh_si (F.1 54 (100, 160) rfl rfl)) rfl (jinb_of (by decide)) (by decide) ?_
            refine x_vret rfl rfl ?_
            show jX m_X8_add 99 0 0 34 [(7, .int 0), (0, .ref 53), (1, .int a4), (2, .int a2), (3, .int a1), (4, .int a3), (5, .int 0), (6, .int 0)] [] _ 0 0 _
            refine x_aloadn (x := 53) rfl rfl ?_
            refine x_iload (x := 0) rfl rfl ?_
            refine x_iconst (v := 1) rfl ki_1 ?_
            refine x_iloadn (x := a2) rfl rfl ?_
            refine x_inv (N := m_X8_put) (As := [.int 0, .int 1, .int a2]) (b := 53) (st := []) (d' := 98) (mc := 0) (ms := 0) (host := "") 8 rfl t_X8_put ⟨Or.inl q_8_29, i_X8_put.1, i_X8_put.2⟩ ⟨by decide, rfl⟩ (congrArg Prod.fst (sh_si (sh_si (F.1 53 (8, 4) rfl rfl)))) rfl (by decide) rfl rfl ⟨by decide, by decide⟩ (jC.of rfl k_X8_put rfl ?_)
            show jX m_X8_put 98 0 0 0 [(0, .ref 53), (1, .int 0), (2, .int 1), (3, .int a2)] [] _ 0 0 _
            refine x_iloadn (x := 0) rfl rfl ?_
            refine x_iflt (tgt := 38) rfl rfl (br_f (by decide) ?_)
            refine x_iloadn (x := 0) rfl rfl ?_
            refine x_aloadn (x := 53) rfl rfl ?_
            refine y_getI (v := 1) 8 3 rfl f_8_7 rfl (congrArg Prod.fst (sh_si (sh_si (F.1 53 (8, 4) rfl rfl)))) (iv_si rfl iv_eq) ?_
            refine x_icge (tgt := 38) rfl rfl (br_f (by decide) ?_)
            refine x_iloadn (x := 1) rfl rfl ?_
            refine x_iflt (tgt := 38) rfl rfl (br_f (by decide) ?_)
            refine x_iloadn (x := 1) rfl rfl ?_
            refine x_aloadn (x := 53) rfl rfl ?_
            refine y_getI (v := 4) 8 0 rfl f_8_19 rfl (congrArg Prod.fst (sh_si (sh_si (F.1 53 (8, 4) rfl rfl)))) (iv_si rfl (iv_si rfl (F.2.2.1 6784 4 rfl rfl))) ?_
            refine x_icge (tgt := 38) rfl rfl (br_f (by decide) ?_)
            refine x_aloadn (x := 53) rfl rfl ?_
            refine x_getR (b := 54) 8 2 rfl f_8_25 rfl (congrArg Prod.fst (sh_si (sh_si (F.1 53 (8, 4) rfl rfl)))) (rv_si (rv_si (F.2.1 6786 54 rfl rfl))) ?_
            refine x_iloadn (x := 0) rfl rfl ?_
            refine x_aloadn (x := 53) rfl rfl ?_
            refine y_getI (v := 4) 8 0 rfl f_8_19 rfl (congrArg Prod.fst (sh_si (sh_si (F.1 53 (8, 4) rfl rfl)))) (iv_si rfl (iv_si rfl (F.2.2.1 6784 4 rfl rfl))) ?_
            refine y_imul (v := 0) rfl (by decide) ?_
            refine x_iloadn (x := 1) rfl rfl ?_
            refine y_iadd (v := 1) rfl (by decide) ?_
            refine x_iloadn (x := a2) rfl rfl ?_
            refine y_iast (N := 160) 1 rfl (sh_si (sh_si (F.1 54 (100, 160) rfl rfl))) rfl (jinb_of (by decide)) (by decide) ?_
            refine x_vret rfl rfl ?_
            show jX m_X8_add 99 0 0 42 [(7, .int 0), (0, .ref 53), (1, .int a4), (2, .int a2), (3, .int a1), (4, .int a3), (5, .int 0), (6, .int 0)] [] _ 0 0 _
            refine x_aloadn (x := 53) rfl rfl ?_
            refine x_iload (x := 0) rfl rfl ?_
            refine x_iconst (v := 2) rfl ki_2 ?_
            refine x_iloadn (x := a1) rfl rfl ?_
            refine x_inv (N := m_X8_put) (As := [.int 0, .int 2, .int a1]) (b := 53) (st := []) (d' := 98) (mc := 0) (ms := 0) (host := "") 8 rfl t_X8_put ⟨Or.inl q_8_29, i_X8_put.1, i_X8_put.2⟩ ⟨by decide, rfl⟩ (congrArg Prod.fst (sh_si (sh_si (sh_si (F.1 53 (8, 4) rfl rfl))))) rfl (by decide) rfl rfl ⟨by decide, by decide⟩ (jC.of rfl k_X8_put rfl ?_)
            show jX m_X8_put 98 0 0 0 [(0, .ref 53), (1, .int 0), (2, .int 2), (3, .int a1)] [] _ 0 0 _
            refine x_iloadn (x := 0) rfl rfl ?_
            refine x_iflt (tgt := 38) rfl rfl (br_f (by decide) ?_)
            refine x_iloadn (x := 0) rfl rfl ?_
            refine x_aloadn (x := 53) rfl rfl ?_
            refine y_getI (v := 1) 8 3 rfl f_8_7 rfl (congrArg Prod.fst (sh_si (sh_si (sh_si (F.1 53 (8, 4) rfl rfl))))) (iv_si rfl (iv_si rfl iv_eq)) ?_
            refine x_icge (tgt := 38) rfl rfl (br_f (by decide) ?_)
            refine x_iloadn (x := 2) rfl rfl ?_
            refine x_iflt (tgt := 38) rfl rfl (br_f (by decide) ?_)
            refine x_iloadn (x := 2) rfl rfl ?_
            refine x_aloadn (x := 53) rfl rfl ?_
            refine y_getI (v := 4) 8 0 rfl f_8_19 rfl (congrArg Prod.fst (sh_si (sh_si (sh_si (F.1 53 (8, 4) rfl rfl))))) (iv_si rfl (iv_si rfl (iv_si rfl (F.2.2.1 6784 4 rfl rfl)))) ?_
            refine x_icge (tgt := 38) rfl rfl (br_f (by decide) ?_)
            refine x_aloadn (x := 53) rfl rfl ?_
            refine x_getR (b := 54) 8 2 rfl f_8_25 rfl (congrArg Prod.fst (sh_si (sh_si (sh_si (F.1 53 (8, 4) rfl rfl))))) (rv_si (rv_si (rv_si (F.2.1 6786 54 rfl rfl)))) ?_
            refine x_iloadn (x := 0) rfl rfl ?_
            refine x_aloadn (x := 53) rfl rfl ?_
            refine y_getI (v := 4) 8 0 rfl f_8_19 rfl (congrArg Prod.fst (sh_si (sh_si (sh_si (F.1 53 (8, 4) rfl rfl))))) (iv_si rfl (iv_si rfl (iv_si rfl (F.2.2.1 6784 4 rfl rfl)))) ?_
            refine y_imul (v := 0) rfl (by decide) ?_
            refine x_iloadn (x := 2) rfl rfl ?_
            refine y_iadd (v := 2) rfl (by decide) ?_
            refine x_iloadn (x := a1) rfl rfl ?_
            refine y_iast (N := 160) 2 rfl (sh_si (sh_si (sh_si (F.1 54 (100, 160) rfl rfl)))) rfl (jinb_of (by decide)) (by decide) ?_
            refine x_vret rfl rfl ?_
            show jX m_X8_add 99 0 0 50 [(7, .int 0), (0, .ref 53), (1, .int a4), (2, .int a2), (3, .int a1), (4, .int a3), (5, .int 0), (6, .int 0)] [] _ 0 0 _
            refine x_aloadn (x := 53) rfl rfl ?_
            refine x_iload (x := 0) rfl rfl ?_
            refine x_iconst (v := 3) rfl ki_3 ?_
            refine x_iload (x := a3) rfl rfl ?_
            refine x_inv (N := m_X8_put) (As := [.int 0, .int 3, .int a3]) (b := 53) (st := []) (d' := 98) (mc := 0) (ms := 0) (host := "") 8 rfl t_X8_put ⟨Or.inl q_8_29, i_X8_put.1, i_X8_put.2⟩ ⟨by decide, rfl⟩ (congrArg Prod.fst (sh_si (sh_si (sh_si (sh_si (F.1 53 (8, 4) rfl rfl)))))) rfl (by decide) rfl rfl ⟨by decide, by decide⟩ (jC.of rfl k_X8_put rfl ?_)
            show jX m_X8_put 98 0 0 0 [(0, .ref 53), (1, .int 0), (2, .int 3), (3, .int a3)] [] _ 0 0 _
            refine x_iloadn (x := 0) rfl rfl ?_
            refine x_iflt (tgt := 38) rfl rfl (br_f (by decide) ?_)
            refine x_iloadn (x := 0) rfl rfl ?_
            refine x_aloadn (x := 53) rfl rfl ?_
            refine y_getI (v := 1) 8 3 rfl f_8_7 rfl (congrArg Prod.fst (sh_si (sh_si (sh_si (sh_si (F.1 53 (8, 4) rfl rfl)))))) (iv_si rfl (iv_si rfl (iv_si rfl iv_eq))) ?_
            refine x_icge (tgt := 38) rfl rfl (br_f (by decide) ?_)
            refine x_iloadn (x := 3) rfl rfl ?_
            refine x_iflt (tgt := 38) rfl rfl (br_f (by decide) ?_)
            refine x_iloadn (x := 3) rfl rfl ?_
            refine x_aloadn (x := 53) rfl rfl ?_
            refine y_getI (v := 4) 8 0 rfl f_8_19 rfl (congrArg Prod.fst (sh_si (sh_si (sh_si (sh_si (F.1 53 (8, 4) rfl rfl)))))) (iv_si rfl (iv_si rfl (iv_si rfl (iv_si rfl (F.2.2.1 6784 4 rfl rfl))))) ?_
            refine x_icge (tgt := 38) rfl rfl (br_f (by decide) ?_)
            refine x_aloadn (x := 53) rfl rfl ?_
            refine x_getR (b := 54) 8 2 rfl f_8_25 rfl (congrArg Prod.fst (sh_si (sh_si (sh_si (sh_si (F.1 53 (8, 4) rfl rfl)))))) (rv_si (rv_si (rv_si (rv_si (F.2.1 6786 54 rfl rfl))))) ?_
            refine x_iloadn (x := 0) rfl rfl ?_
            refine x_aloadn (x := 53) rfl rfl ?_
            refine y_getI (v := 4) 8 0 rfl f_8_19 rfl (congrArg Prod.fst (sh_si (sh_si (sh_si (sh_si (F.1 53 (8, 4) rfl rfl)))))) (iv_si rfl (iv_si rfl (iv_si rfl (iv_si rfl (F.2.2.1 6784 4 rfl rfl))))) ?_
            refine y_imul (v := 0) rfl (by decide) ?_
            refine x_iloadn (x := 3) rfl rfl ?_
            refine y_iadd (v := 3) rfl (by decide) ?_
            refine x_iloadn (x := a3) rfl rfl ?_
            refine y_iast (N := 160) 3 rfl (sh_si (sh_si (sh_si (sh_si (F.1 54 (100, 160) rfl rfl))))) rfl (jinb_of (by decide)) (by decide) ?_
            refine x_vret rfl rfl ?_
            show jX m_X8_add 99 0 0 59 [(7, .int 0), (0, .ref 53), (1, .int a4), (2, .int a2), (3, .int a1), (4, .int a3), (5, .int 0), (6, .int 0)] [] _ 0 0 _
            refine x_aloadn (x := 53) rfl rfl ?_
            refine x_iload (x := 0) rfl rfl ?_
            refine x_iconst (v := 4) rfl ki_4 ?_
            refine x_iload (x := 0) rfl rfl ?_
            refine x_inv (N := m_X8_put) (As := [.int 0, .int 4, .int 0]) (b := 53) (st := []) (d' := 98) (mc := 0) (ms := 0) (host := "") 8 rfl t_X8_put ⟨Or.inl q_8_29, i_X8_put.1, i_X8_put.2⟩ ⟨by decide, rfl⟩ (congrArg Prod.fst (sh_si (sh_si (sh_si (sh_si (sh_si (F.1 53 (8, 4) rfl rfl))))))) rfl (by decide) rfl rfl ⟨by decide, by decide⟩ (jC.of rfl k_X8_put rfl ?_)
            show jX m_X8_put 98 0 0 0 [(0, .ref 53), (1, .int 0), (2, .int 4), (3, .int 0)] [] _ 0 0 _
            refine x_iloadn (x := 0) rfl rfl ?_
            refine x_iflt (tgt := 38) rfl rfl (br_f (by decide) ?_)
            refine x_iloadn (x := 0) rfl rfl ?_
            refine x_aloadn (x := 53) rfl rfl ?_
            refine y_getI (v := 1) 8 3 rfl f_8_7 rfl (congrArg Prod.fst (sh_si (sh_si (sh_si (sh_si (sh_si (F.1 53 (8, 4) rfl rfl))))))) (iv_si rfl (iv_si rfl (iv_si rfl (iv_si rfl iv_eq)))) ?_
            refine x_icge (tgt := 38) rfl rfl (br_f (by decide) ?_)
            refine x_iloadn (x := 4) rfl rfl ?_
            refine x_iflt (tgt := 38) rfl rfl (br_f (by decide) ?_)
            refine x_iloadn (x := 4) rfl rfl ?_
            refine x_aloadn (x := 53) rfl rfl ?_
            refine y_getI (v := 4) 8 0 rfl f_8_19 rfl (congrArg Prod.fst (sh_si (sh_si (sh_si (sh_si (sh_si (F.1 53 (8, 4) rfl rfl))))))) (iv_si rfl (iv_si rfl (iv_si rfl (iv_si rfl (iv_si rfl (F.2.2.1 6784 4 rfl rfl)))))) ?_
            refine x_icge (tgt := 38) rfl rfl (br_t (by decide) ?_)
            refine x_vret rfl rfl ?_
            show jX m_X8_add 99 0 0 68 [(7, .int 0), (0, .ref 53), (1, .int a4), (2, .int a2), (3, .int a1), (4, .int a3), (5, .int 0), (6, .int 0)] [] _ 0 0 _
            refine x_aloadn (x := 53) rfl rfl ?_
            refine x_iload (x := 0) rfl rfl ?_
            refine x_iconst (v := 5) rfl ki_5 ?_
            refine x_iload (x := 0) rfl rfl ?_
            refine x_inv (N := m_X8_put) (As := [.int 0, .int 5, .int 0]) (b := 53) (st := []) (d' := 98) (mc := 0) (ms := 0) (host := "") 8 rfl t_X8_put ⟨Or.inl q_8_29, i_X8_put.1, i_X8_put.2⟩ ⟨by decide, rfl⟩ (congrArg Prod.fst (sh_si (sh_si (sh_si (sh_si (sh_si (F.1 53 (8, 4) rfl rfl))))))) rfl (by decide) rfl rfl ⟨by decide, by decide⟩ (jC.of rfl k_X8_put rfl ?_)
            show jX m_X8_put 98 0 0 0 [(0, .ref 53), (1, .int 0), (2, .int 5), (3, .int 0)] [] _ 0 0 _
            refine x_iloadn (x := 0) rfl rfl ?_
            refine x_iflt (tgt := 38) rfl rfl (br_f (by decide) ?_)
            refine x_iloadn (x := 0) rfl rfl ?_
            refine x_aloadn (x := 53) rfl rfl ?_
            refine y_getI (v := 1) 8 3 rfl f_8_7 rfl (congrArg Prod.fst (sh_si (sh_si (sh_si (sh_si (sh_si (F.1 53 (8, 4) rfl rfl))))))) (iv_si rfl (iv_si rfl (iv_si rfl (iv_si rfl iv_eq)))) ?_
            refine x_icge (tgt := 38) rfl rfl (br_f (by decide) ?_)
            refine x_iloadn (x := 5) rfl rfl ?_
            refine x_iflt (tgt := 38) rfl rfl (br_f (by decide) ?_)
            refine x_iloadn (x := 5) rfl rfl ?_
            refine x_aloadn (x := 53) rfl rfl ?_
            refine y_getI (v := 4) 8 0 rfl f_8_19 rfl (congrArg Prod.fst (sh_si (sh_si (sh_si (sh_si (sh_si (F.1 53 (8, 4) rfl rfl))))))) (iv_si rfl (iv_si rfl (iv_si rfl (iv_si rfl (iv_si rfl (F.2.2.1 6784 4 rfl rfl)))))) ?_
            refine x_icge (tgt := 38) rfl rfl (br_t (by decide) ?_)
            refine x_vret rfl rfl ?_
            show jX m_X8_add 99 0 0 77 [(7, .int 0), (0, .ref 53), (1, .int a4), (2, .int a2), (3, .int a1), (4, .int a3), (5, .int 0), (6, .int 0)] [] _ 0 0 _
            refine x_vret rfl rfl ?_
            show jX m_X11_levy 100 0 0 78 [(0, .ref 31), (1, .int a1), (2, .int a2), (3, .int a3), (4, .int a4)] [] _ 0 0 _
            refine x_aloadn (x := 31) rfl rfl ?_
            refine x_aloadn (x := 31) rfl rfl ?_
            refine x_getR (b := 32) 11 0 rfl f_11_10 rfl (congrArg Prod.fst (sh_si (sh_si (sh_si (sh_si (sh_si (F.1 31 (11, 13) rfl rfl))))))) (rv_si (rv_si (rv_si (rv_si (rv_si (F.2.1 3968 32 rfl rfl)))))) ?_
            refine x_getR (b := 53) 1 10 rfl f_11_437 rfl (congrArg Prod.fst (sh_si (sh_si (sh_si (sh_si (sh_si (F.1 32 (1, 20) rfl rfl))))))) (rv_si (rv_si (rv_si (rv_si (rv_si (F.2.1 4106 53 rfl rfl)))))) ?_
            refine y_getI (v := 1) 8 3 rfl f_11_142 rfl (congrArg Prod.fst (sh_si (sh_si (sh_si (sh_si (sh_si (F.1 53 (8, 4) rfl rfl))))))) (iv_si rfl (iv_si rfl (iv_si rfl (iv_si rfl iv_eq)))) ?_
            refine x_iconst (v := 1) rfl ki_1 ?_
            refine y_isub (v := 0) rfl (by decide) ?_
            refine x_inv (N := m_X11_accept) (As := [.int 0]) (b := 31) (st := []) (d' := 99) (mc := 0) (ms := 0) (host := "") 11 rfl t_X11_accept ⟨Or.inl q_11_165, i_X11_accept.1, i_X11_accept.2⟩ ⟨by decide, rfl⟩ (congrArg Prod.fst (sh_si (sh_si (sh_si (sh_si (sh_si (F.1 31 (11, 13) rfl rfl))))))) rfl (by decide) rfl rfl ⟨by decide, by decide⟩ (jC.of rfl k_X11_accept rfl ?_)
            show jX m_X11_accept 99 0 0 0 [(0, .ref 31), (1, .int 0)] [] _ 0 0 _
            refine x_aloadn (x := 31) rfl rfl ?_
            refine x_iconst (v := 0) rfl ki_0 ?_
            refine x_putI 11 12 rfl f_11_94 rfl (jfin_no TX11 RX11 13 rfl rfl) (congrArg Prod.fst (sh_si (sh_si (sh_si (sh_si (sh_si (F.1 31 (11, 13) rfl rfl))))))) rfl ?_
            refine x_aloadn (x := 31) rfl rfl ?_
            refine x_getR (b := 32) 11 0 rfl f_11_10 rfl (congrArg Prod.fst (sh_si (sh_si (sh_si (sh_si (sh_si (sh_si (F.1 31 (11, 13) rfl rfl)))))))) (rv_si (rv_si (rv_si (rv_si (rv_si (rv_si (F.2.1 3968 32 rfl rfl))))))) ?_
            refine x_dup rfl rfl ?_
            refine y_getI (v := 1) 1 19 rfl f_11_528 rfl (congrArg Prod.fst (sh_si (sh_si (sh_si (sh_si (sh_si (sh_si (F.1 32 (1, 20) rfl rfl)))))))) (iv_si rfl (iv_si rfl (iv_si rfl (iv_si rfl (iv_si rfl (iv_si rfl (F.2.2.1 4115 1 rfl rfl))))))) ?_
            refine x_iconst (v := 1) rfl ki_1 ?_
            refine y_iadd (v := 2) rfl (by decide) ?_
            refine x_putI 1 19 rfl f_11_528 rfl (jfin_no TX1 RX1 20 rfl rfl) (congrArg Prod.fst (sh_si (sh_si (sh_si (sh_si (sh_si (sh_si (F.1 32 (1, 20) rfl rfl)))))))) rfl ?_
            refine x_iloadn (x := 0) rfl rfl ?_
            refine x_iret rfl rfl ?_
            show jX m_X11_levy 100 0 0 94 [(0, .ref 31), (1, .int a1), (2, .int a2), (3, .int a3), (4, .int a4)] [.int 0] _ 0 0 _
            refine x_iret rfl rfl ?_
            exact jqe (show sp_levy a1 a2 a3 a4 = 0 by unfold sp_levy; (repeat' split) <;> first | rfl | (exfalso; omega)) (hQ _ (jFb_si rfl (jFb_si rfl (jFb_si rfl (jFb_si rfl (jFb_si rfl (jFb_si rfl (jFb_si rfl FM))))))) (jOl_si rfl (jOl_si rfl (jOl_si rfl (jOl_si rfl (jOl_si rfl (jOl_si rfl (jOl_si rfl O))))))))
          ·
            refine x_aloadn (x := 31) rfl rfl ?_
            refine x_iconst (v := (-1)) rfl ki_m1 ?_
            refine x_inv (N := m_X11_refuse) (As := [.int (-1)]) (b := 31) (st := []) (d' := 99) (mc := 0) (ms := 0) (host := "") 11 rfl t_X11_refuse ⟨Or.inl q_11_206, i_X11_refuse.1, i_X11_refuse.2⟩ ⟨by decide, rfl⟩ (congrArg Prod.fst (F.1 31 (11, 13) rfl rfl)) rfl (by decide) rfl rfl ⟨by decide, by decide⟩ (jC.of rfl k_X11_refuse rfl ?_)
            show jX m_X11_refuse 99 0 0 0 [(0, .ref 31), (1, .int (-1))] [] _ 0 0 _
            refine x_aloadn (x := 31) rfl rfl ?_
            refine x_iloadn (x := (-1)) rfl rfl ?_
            refine x_putI 11 12 rfl f_11_94 rfl (jfin_no TX11 RX11 13 rfl rfl) (congrArg Prod.fst (F.1 31 (11, 13) rfl rfl)) rfl ?_
            refine x_iloadn (x := (-1)) rfl rfl ?_
            refine x_iret rfl rfl ?_
            show jX m_X11_levy 100 0 0 40 [(0, .ref 31), (1, .int a1), (2, .int a2), (3, .int a3), (4, .int a4)] [.int (-1)] _ 0 0 _
            refine x_iret rfl rfl ?_
            exact jqe (show sp_levy a1 a2 a3 a4 = (-1) by unfold sp_levy; (repeat' split) <;> first | rfl | (exfalso; omega)) (hQ _ (jFb_si rfl FM) (jOl_si rfl O))
set_option maxRecDepth 100000 in
set_option maxHeartbeats 40000000 in
theorem pm_levy (a1 a2 a3 a4 : Int32) {xs : Nat → Int32} {h : jH} {Q : Option Value → jH → Prop} (F : jFb 125 h) (O : jOl 7 xs h) (hQ : ∀ h', jOl 7 xs h' → Q (some (.int (sp_levy a1 a2 a3 a4))) h') : jC m_X12_levy 100 0 0 [.ref 125, .int a1, .int a2, .int a3, .int a4] h Q := by
  refine jC.of rfl k_X12_levy rfl ?_
  show jX m_X12_levy 100 0 0 0 [(0, .ref 125), (1, .int a1), (2, .int a2), (3, .int a3), (4, .int a4)] [] _ 0 0 _
  refine x_aloadn (x := 125) rfl rfl ?_
  refine x_iconst (v := 0) rfl ki_0 ?_
  refine x_putI 12 0 rfl f_12_180 rfl (jfin_no TX12 RX12 92 rfl rfl) (congrArg Prod.fst (F.1 125 (12, 92) rfl rfl)) rfl ?_
  refine x_iloadn (x := a1) rfl rfl ?_
  refine x_i2l rfl ?_
  refine x_lconst (v := 0) rfl kl_0 ?_
  refine x_ldc2 (v := 2) rfl z_12_482 ?_
  refine x_inst (N := m_X12_in) (As := [.long (a1.toInt64), .long 0, .long 2]) (st := []) (d' := 99) (mc := 0) (ms := 0) (host := "") rfl t_X12_in ⟨Or.inl q_12_188, s_X12_in⟩ rfl (by decide) rfl rfl ⟨by decide, by decide⟩ (c_X12_in (m := a1.toInt) (a := 0) (b := 2) (jt_l _) (by decide) (by decide) ?_)
  show jX m_X12_levy 100 0 0 14 [(0, .ref 125), (1, .int a1), (2, .int a2), (3, .int a3), (4, .int a4)] [.int (jp (0 ≤ a1.toInt ∧ a1.toInt ≤ 2))] _ 0 0 _
  refine x_ifeq (tgt := 44) rfl rfl (jpe ⟨fun c1 => ?_, fun c1 => ?_⟩)
  ·
    refine x_aloadn (x := 125) rfl rfl ?_
    refine x_iconst (v := (-1)) rfl ki_m1 ?_
    refine x_inv (N := m_X12_told) (As := [.int (-1)]) (b := 125) (st := []) (d' := 99) (mc := 0) (ms := 0) (host := "") 12 rfl t_X12_told ⟨Or.inl q_12_197, i_X12_told.1, i_X12_told.2⟩ ⟨by decide, rfl⟩ (congrArg Prod.fst (sh_si (F.1 125 (12, 92) rfl rfl))) rfl (by decide) rfl rfl ⟨by decide, by decide⟩ (jC.of rfl k_X12_told rfl ?_)
    show jX m_X12_told 99 0 0 0 [(0, .ref 125), (1, .int (-1))] [] _ 0 0 _
    refine x_aloadn (x := 125) rfl rfl ?_
    refine x_iloadn (x := (-1)) rfl rfl ?_
    refine x_ifge (tgt := 9) rfl rfl (br_f (by decide) ?_)
    refine x_iloadn (x := (-1)) rfl rfl ?_
    refine x_goto (tgt := 10) rfl rfl ?_
    refine x_putI 12 1 rfl f_12_183 rfl (jfin_no TX12 RX12 92 rfl rfl) (congrArg Prod.fst (sh_si (F.1 125 (12, 92) rfl rfl))) rfl ?_
    refine x_iloadn (x := (-1)) rfl rfl ?_
    refine x_iret rfl rfl ?_
    show jX m_X12_levy 100 0 0 49 [(0, .ref 125), (1, .int a1), (2, .int a2), (3, .int a3), (4, .int a4)] [.int (-1)] _ 0 0 _
    refine x_iret rfl rfl ?_
    exact jqe (show sp_levy a1 a2 a3 a4 = (-1) by unfold sp_levy; (repeat' split) <;> first | rfl | (exfalso; omega)) (hQ _ (jOl_si rfl (jOl_si rfl O)))
  ·
    refine x_iloadn (x := a2) rfl rfl ?_
    refine x_inst (N := m_X12_isYear) (As := [.int a2]) (st := []) (d' := 99) (mc := 0) (ms := 0) (host := "") rfl t_X12_isYear ⟨Or.inl q_12_817, s_X12_isYear⟩ rfl (by decide) rfl rfl ⟨by decide, by decide⟩ (c_X12_isYear (x := a2) ?_)
    show jX m_X12_levy 100 0 0 21 [(0, .ref 125), (1, .int a1), (2, .int a2), (3, .int a3), (4, .int a4)] [.int (jp (0 ≤ a2.toInt ∧ a2.toInt ≤ 399))] _ 0 0 _
    refine x_ifeq (tgt := 44) rfl rfl (jpe ⟨fun c2 => ?_, fun c2 => ?_⟩)
    ·
      refine x_aloadn (x := 125) rfl rfl ?_
      refine x_iconst (v := (-1)) rfl ki_m1 ?_
      refine x_inv (N := m_X12_told) (As := [.int (-1)]) (b := 125) (st := []) (d' := 99) (mc := 0) (ms := 0) (host := "") 12 rfl t_X12_told ⟨Or.inl q_12_197, i_X12_told.1, i_X12_told.2⟩ ⟨by decide, rfl⟩ (congrArg Prod.fst (sh_si (F.1 125 (12, 92) rfl rfl))) rfl (by decide) rfl rfl ⟨by decide, by decide⟩ (jC.of rfl k_X12_told rfl ?_)
      show jX m_X12_told 99 0 0 0 [(0, .ref 125), (1, .int (-1))] [] _ 0 0 _
      refine x_aloadn (x := 125) rfl rfl ?_
      refine x_iloadn (x := (-1)) rfl rfl ?_
      refine x_ifge (tgt := 9) rfl rfl (br_f (by decide) ?_)
      refine x_iloadn (x := (-1)) rfl rfl ?_
      refine x_goto (tgt := 10) rfl rfl ?_
      refine x_putI 12 1 rfl f_12_183 rfl (jfin_no TX12 RX12 92 rfl rfl) (congrArg Prod.fst (sh_si (F.1 125 (12, 92) rfl rfl))) rfl ?_
      refine x_iloadn (x := (-1)) rfl rfl ?_
      refine x_iret rfl rfl ?_
      show jX m_X12_levy 100 0 0 49 [(0, .ref 125), (1, .int a1), (2, .int a2), (3, .int a3), (4, .int a4)] [.int (-1)] _ 0 0 _
      refine x_iret rfl rfl ?_
      exact jqe (show sp_levy a1 a2 a3 a4 = (-1) by unfold sp_levy; (repeat' split) <;> first | rfl | (exfalso; omega)) (hQ _ (jOl_si rfl (jOl_si rfl O)))
    ·
      refine x_iloadn (x := a3) rfl rfl ?_
      refine x_i2l rfl ?_
      refine x_lconst (v := 0) rfl kl_0 ?_
      refine x_ldc2 (v := 1000000) rfl z_12_244 ?_
      refine x_inst (N := m_X12_in) (As := [.long (a3.toInt64), .long 0, .long 1000000]) (st := []) (d' := 99) (mc := 0) (ms := 0) (host := "") rfl t_X12_in ⟨Or.inl q_12_188, s_X12_in⟩ rfl (by decide) rfl rfl ⟨by decide, by decide⟩ (c_X12_in (m := a3.toInt) (a := 0) (b := 1000000) (jt_l _) (by decide) (by decide) ?_)
      show jX m_X12_levy 100 0 0 33 [(0, .ref 125), (1, .int a1), (2, .int a2), (3, .int a3), (4, .int a4)] [.int (jp (0 ≤ a3.toInt ∧ a3.toInt ≤ 1000000))] _ 0 0 _
      refine x_ifeq (tgt := 44) rfl rfl (jpe ⟨fun c3 => ?_, fun c3 => ?_⟩)
      ·
        refine x_aloadn (x := 125) rfl rfl ?_
        refine x_iconst (v := (-1)) rfl ki_m1 ?_
        refine x_inv (N := m_X12_told) (As := [.int (-1)]) (b := 125) (st := []) (d' := 99) (mc := 0) (ms := 0) (host := "") 12 rfl t_X12_told ⟨Or.inl q_12_197, i_X12_told.1, i_X12_told.2⟩ ⟨by decide, rfl⟩ (congrArg Prod.fst (sh_si (F.1 125 (12, 92) rfl rfl))) rfl (by decide) rfl rfl ⟨by decide, by decide⟩ (jC.of rfl k_X12_told rfl ?_)
        show jX m_X12_told 99 0 0 0 [(0, .ref 125), (1, .int (-1))] [] _ 0 0 _
        refine x_aloadn (x := 125) rfl rfl ?_
        refine x_iloadn (x := (-1)) rfl rfl ?_
        refine x_ifge (tgt := 9) rfl rfl (br_f (by decide) ?_)
        refine x_iloadn (x := (-1)) rfl rfl ?_
        refine x_goto (tgt := 10) rfl rfl ?_
        refine x_putI 12 1 rfl f_12_183 rfl (jfin_no TX12 RX12 92 rfl rfl) (congrArg Prod.fst (sh_si (F.1 125 (12, 92) rfl rfl))) rfl ?_
        refine x_iloadn (x := (-1)) rfl rfl ?_
        refine x_iret rfl rfl ?_
        show jX m_X12_levy 100 0 0 49 [(0, .ref 125), (1, .int a1), (2, .int a2), (3, .int a3), (4, .int a4)] [.int (-1)] _ 0 0 _
        refine x_iret rfl rfl ?_
        exact jqe (show sp_levy a1 a2 a3 a4 = (-1) by unfold sp_levy; (repeat' split) <;> first | rfl | (exfalso; omega)) (hQ _ (jOl_si rfl (jOl_si rfl O)))
      ·
        refine x_iload (x := a4) rfl rfl ?_
        refine x_inst (N := m_X12_isDay) (As := [.int a4]) (st := []) (d' := 99) (mc := 0) (ms := 0) (host := "") rfl t_X12_isDay ⟨Or.inl q_12_273, s_X12_isDay⟩ rfl (by decide) rfl rfl ⟨by decide, by decide⟩ (c_X12_isDay (x := a4) ?_)
        show jX m_X12_levy 100 0 0 41 [(0, .ref 125), (1, .int a1), (2, .int a2), (3, .int a3), (4, .int a4)] [.int (jp (0 ≤ a4.toInt ∧ a4.toInt ≤ 146399))] _ 0 0 _
        refine x_ifne (tgt := 50) rfl rfl (jpn ⟨fun c4 => ?_, fun c4 => ?_⟩)
        ·
          refine x_aloadn (x := 125) rfl rfl ?_
          refine x_getR (b := 126) 12 2 rfl f_12_8 rfl (congrArg Prod.fst (sh_si (F.1 125 (12, 92) rfl rfl))) (rv_si (F.2.1 16002 126 rfl rfl)) ?_
          refine x_bipush (v := 11) rfl kb_11 ?_
          refine y_iald (v := 0) (N := 50660) 11 rfl (sh_si (F.1 126 (100, 50660) rfl rfl)) (jinb_of (by decide)) (by decide) (iv_si rfl (F.2.2.2.1 126 rfl rfl 11).1) ?_
          refine x_bipush (v := 40) rfl kb_40 ?_
          refine x_icne (tgt := 69) rfl rfl (bn_t (by decide) ?_)
          refine x_aloadn (x := 125) rfl rfl ?_
          refine x_ldcw (v := 48300) rfl z_12_820 ?_
          refine x_iconst (v := 4) rfl ki_4 ?_
          refine x_aloadn (x := 125) rfl rfl ?_
          refine x_getR (b := 126) 12 2 rfl f_12_8 rfl (congrArg Prod.fst (sh_si (F.1 125 (12, 92) rfl rfl))) (rv_si (F.2.1 16002 126 rfl rfl)) ?_
          refine x_bipush (v := 11) rfl kb_11 ?_
          refine y_iald (v := 0) (N := 50660) 11 rfl (sh_si (F.1 126 (100, 50660) rfl rfl)) (jinb_of (by decide)) (by decide) (iv_si rfl (F.2.2.2.1 126 rfl rfl 11).1) ?_
          refine y_imul (v := 0) rfl (by decide) ?_
          refine y_iadd (v := 48300) rfl (by decide) ?_
          refine x_iloadn (x := a1) rfl rfl ?_
          refine x_iloadn (x := a2) rfl rfl ?_
          refine x_iloadn (x := a3) rfl rfl ?_
          refine x_iload (x := a4) rfl rfl ?_
          refine x_inv (N := m_X12_addFour) (As := [.int 48300, .int a1, .int a2, .int a3, .int a4]) (b := 125) (st := []) (d' := 99) (mc := 0) (ms := 0) (host := "") 12 rfl t_X12_addFour ⟨Or.inl q_12_814, i_X12_addFour.1, i_X12_addFour.2⟩ ⟨by decide, rfl⟩ (congrArg Prod.fst (sh_si (F.1 125 (12, 92) rfl rfl))) rfl (by decide) rfl rfl ⟨by decide, by decide⟩ (jC.of rfl k_X12_addFour rfl ?_)
          show jX m_X12_addFour 99 0 0 0 [(0, .ref 125), (1, .int 48300), (2, .int a1), (3, .int a2), (4, .int a3), (5, .int a4)] [] _ 0 0 _
          refine x_aloadn (x := 125) rfl rfl ?_
          refine x_getR (b := 126) 12 2 rfl f_12_8 rfl (congrArg Prod.fst (sh_si (F.1 125 (12, 92) rfl rfl))) (rv_si (F.2.1 16002 126 rfl rfl)) ?_
          refine x_iloadn (x := 48300) rfl rfl ?_
          refine x_iloadn (x := a1) rfl rfl ?_
          refine y_iast (N := 50660) 48300 rfl (sh_si (F.1 126 (100, 50660) rfl rfl)) rfl (jinb_of (by decide)) (by decide) ?_
          refine x_aloadn (x := 125) rfl rfl ?_
          refine x_getR (b := 126) 12 2 rfl f_12_8 rfl (congrArg Prod.fst (sh_si (sh_si (F.1 125 (12, 92) rfl rfl)))) (rv_si (rv_si (F.2.1 16002 126 rfl rfl))) ?_
          refine x_iloadn (x := 48300) rfl rfl ?_
          refine x_iconst (v := 1) rfl ki_1 ?_
          refine y_iadd (v := 48301) rfl (by decide) ?_
          refine x_iloadn (x := a2) rfl rfl ?_
          refine y_iast (N := 50660) 48301 rfl (sh_si (sh_si (F.1 126 (100, 50660) rfl rfl))) rfl (jinb_of (by decide)) (by decide) ?_
          refine x_aloadn (x := 125) rfl rfl ?_
          refine x_getR (b := 126) 12 2 rfl f_12_8 rfl (congrArg Prod.fst (sh_si (sh_si (sh_si (F.1 125 (12, 92) rfl rfl))))) (rv_si (rv_si (rv_si (F.2.1 16002 126 rfl rfl)))) ?_
          refine x_iloadn (x := 48300) rfl rfl ?_
          refine x_iconst (v := 2) rfl ki_2 ?_
          refine y_iadd (v := 48302) rfl (by decide) ?_
          refine x_iload (x := a3) rfl rfl ?_
          refine y_iast (N := 50660) 48302 rfl (sh_si (sh_si (sh_si (F.1 126 (100, 50660) rfl rfl)))) rfl (jinb_of (by decide)) (by decide) ?_
          refine x_aloadn (x := 125) rfl rfl ?_
          refine x_getR (b := 126) 12 2 rfl f_12_8 rfl (congrArg Prod.fst (sh_si (sh_si (sh_si (sh_si (F.1 125 (12, 92) rfl rfl)))))) (rv_si (rv_si (rv_si (rv_si (F.2.1 16002 126 rfl rfl))))) ?_
          refine x_iloadn (x := 48300) rfl rfl ?_
          refine x_iconst (v := 3) rfl ki_3 ?_
          refine y_iadd (v := 48303) rfl (by decide) ?_
          refine x_iload (x := a4) rfl rfl ?_
          refine y_iast (N := 50660) 48303 rfl (sh_si (sh_si (sh_si (sh_si (F.1 126 (100, 50660) rfl rfl))))) rfl (jinb_of (by decide)) (by decide) ?_
          refine x_vret rfl rfl ?_
          show jX m_X12_levy 100 0 0 91 [(0, .ref 125), (1, .int a1), (2, .int a2), (3, .int a3), (4, .int a4)] [] _ 0 0 _
          refine x_aloadn (x := 125) rfl rfl ?_
          refine x_getR (b := 126) 12 2 rfl f_12_8 rfl (congrArg Prod.fst (sh_si (sh_si (sh_si (sh_si (sh_si (F.1 125 (12, 92) rfl rfl))))))) (rv_si (rv_si (rv_si (rv_si (rv_si (F.2.1 16002 126 rfl rfl)))))) ?_
          refine x_bipush (v := 11) rfl kb_11 ?_
          refine x_dup2 rfl rfl rfl ?_
          refine y_iald (v := 0) (N := 50660) 11 rfl (sh_si (sh_si (sh_si (sh_si (sh_si (F.1 126 (100, 50660) rfl rfl)))))) (jinb_of (by decide)) (by decide) (iv_si rfl (iv_si rfl (iv_si rfl (iv_si rfl (iv_si rfl (F.2.2.2.1 126 rfl rfl 11).1))))) ?_
          refine x_iconst (v := 1) rfl ki_1 ?_
          refine y_iadd (v := 1) rfl (by decide) ?_
          refine y_iast (N := 50660) 11 rfl (sh_si (sh_si (sh_si (sh_si (sh_si (F.1 126 (100, 50660) rfl rfl)))))) rfl (jinb_of (by decide)) (by decide) ?_
          refine x_aloadn (x := 125) rfl rfl ?_
          refine x_aloadn (x := 125) rfl rfl ?_
          refine x_getR (b := 126) 12 2 rfl f_12_8 rfl (congrArg Prod.fst (sh_si (sh_si (sh_si (sh_si (sh_si (sh_si (F.1 125 (12, 92) rfl rfl)))))))) (rv_si (rv_si (rv_si (rv_si (rv_si (rv_si (F.2.1 16002 126 rfl rfl))))))) ?_
          refine x_bipush (v := 11) rfl kb_11 ?_
          refine y_iald (v := 1) (N := 50660) 11 rfl (sh_si (sh_si (sh_si (sh_si (sh_si (sh_si (F.1 126 (100, 50660) rfl rfl))))))) (jinb_of (by decide)) (by decide) iv_eq ?_
          refine x_iconst (v := 1) rfl ki_1 ?_
          refine y_isub (v := 0) rfl (by decide) ?_
          refine x_inv (N := m_X12_told) (As := [.int 0]) (b := 125) (st := []) (d' := 99) (mc := 0) (ms := 0) (host := "") 12 rfl t_X12_told ⟨Or.inl q_12_197, i_X12_told.1, i_X12_told.2⟩ ⟨by decide, rfl⟩ (congrArg Prod.fst (sh_si (sh_si (sh_si (sh_si (sh_si (sh_si (F.1 125 (12, 92) rfl rfl)))))))) rfl (by decide) rfl rfl ⟨by decide, by decide⟩ (jC.of rfl k_X12_told rfl ?_)
          show jX m_X12_told 99 0 0 0 [(0, .ref 125), (1, .int 0)] [] _ 0 0 _
          refine x_aloadn (x := 125) rfl rfl ?_
          refine x_iloadn (x := 0) rfl rfl ?_
          refine x_ifge (tgt := 9) rfl rfl (br_t (by decide) ?_)
          refine x_iconst (v := 0) rfl ki_0 ?_
          refine x_putI 12 1 rfl f_12_183 rfl (jfin_no TX12 RX12 92 rfl rfl) (congrArg Prod.fst (sh_si (sh_si (sh_si (sh_si (sh_si (sh_si (F.1 125 (12, 92) rfl rfl)))))))) rfl ?_
          refine x_iloadn (x := 0) rfl rfl ?_
          refine x_iret rfl rfl ?_
          show jX m_X12_levy 100 0 0 115 [(0, .ref 125), (1, .int a1), (2, .int a2), (3, .int a3), (4, .int a4)] [.int 0] _ 0 0 _
          refine x_iret rfl rfl ?_
          exact jqe (show sp_levy a1 a2 a3 a4 = 0 by unfold sp_levy; (repeat' split) <;> first | rfl | (exfalso; omega)) (hQ _ (jOl_si rfl (jOl_si rfl (jOl_si rfl (jOl_si rfl (jOl_si rfl (jOl_si rfl (jOl_si rfl O))))))))
        ·
          refine x_aloadn (x := 125) rfl rfl ?_
          refine x_iconst (v := (-1)) rfl ki_m1 ?_
          refine x_inv (N := m_X12_told) (As := [.int (-1)]) (b := 125) (st := []) (d' := 99) (mc := 0) (ms := 0) (host := "") 12 rfl t_X12_told ⟨Or.inl q_12_197, i_X12_told.1, i_X12_told.2⟩ ⟨by decide, rfl⟩ (congrArg Prod.fst (sh_si (F.1 125 (12, 92) rfl rfl))) rfl (by decide) rfl rfl ⟨by decide, by decide⟩ (jC.of rfl k_X12_told rfl ?_)
          show jX m_X12_told 99 0 0 0 [(0, .ref 125), (1, .int (-1))] [] _ 0 0 _
          refine x_aloadn (x := 125) rfl rfl ?_
          refine x_iloadn (x := (-1)) rfl rfl ?_
          refine x_ifge (tgt := 9) rfl rfl (br_f (by decide) ?_)
          refine x_iloadn (x := (-1)) rfl rfl ?_
          refine x_goto (tgt := 10) rfl rfl ?_
          refine x_putI 12 1 rfl f_12_183 rfl (jfin_no TX12 RX12 92 rfl rfl) (congrArg Prod.fst (sh_si (F.1 125 (12, 92) rfl rfl))) rfl ?_
          refine x_iloadn (x := (-1)) rfl rfl ?_
          refine x_iret rfl rfl ?_
          show jX m_X12_levy 100 0 0 49 [(0, .ref 125), (1, .int a1), (2, .int a2), (3, .int a3), (4, .int a4)] [.int (-1)] _ 0 0 _
          refine x_iret rfl rfl ?_
          exact jqe (show sp_levy a1 a2 a3 a4 = (-1) by unfold sp_levy; (repeat' split) <;> first | rfl | (exfalso; omega)) (hQ _ (jOl_si rfl (jOl_si rfl O)))
