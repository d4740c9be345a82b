def sp_kin (a1 a2 a3 a4 : Int32) : Int32 := (-1)
set_option maxRecDepth 100000 in
set_option maxHeartbeats 40000000 in
theorem px_kin (a1 a2 a3 a4 : Int32) {xs : Nat → Int32} {h : jH} {Q : Option Value → jH → Prop} (F : jFb 31 h) (O : jOl 7 xs h) (hQ : ∀ h', jFb 125 h' → jOl 7 xs h' → Q (some (.int (sp_kin a1 a2 a3 a4))) h') : jC m_X11_kin 100 0 0 [.ref 31, .int a1, .int a2, .int a3, .int a4] h Q := by
  have FM := jFb_up 125 rfl F
  refine jC.of rfl k_X11_kin rfl ?_
  show jX m_X11_kin 100 0 0 0 [(0, .ref 31), (1, .int a1), (2, .int a2), (3, .int a3), (4, .int a4)] [] _ 0 0 _
  refine x_aloadn (x := 31) rfl rfl ?_
  refine x_iloadn (x := a1) rfl rfl ?_
  refine x_iloadn (x := a2) rfl rfl ?_
  refine x_inv (N := m_X11_soulOn) (As := [.int a1, .int a2]) (b := 31) (st := []) (d' := 99) (mc := 0) (ms := 0) (host := "") 11 rfl t_X11_soulOn ⟨Or.inl q_11_234, i_X11_soulOn.1, i_X11_soulOn.2⟩ ⟨by decide, rfl⟩ (congrArg Prod.fst (F.1 31 (11, 13) rfl rfl)) rfl (by decide) rfl rfl ⟨by decide, by decide⟩ (jC.of rfl k_X11_soulOn rfl ?_)
  show jX m_X11_soulOn 99 0 0 0 [(0, .ref 31), (1, .int a1), (2, .int a2)] [] _ 0 0 _
  refine x_iloadn (x := a2) rfl rfl ?_
  refine x_inst (N := m_X11_isDay) (As := [.int a2]) (st := []) (d' := 98) (mc := 0) (ms := 0) (host := "") rfl t_X11_isDay ⟨Or.inl q_11_115, s_X11_isDay⟩ rfl (by decide) rfl rfl ⟨by decide, by decide⟩ (c_X11_isDay (x := a2) ?_)
  show jX m_X11_soulOn 99 0 0 4 [(0, .ref 31), (1, .int a1), (2, .int a2)] [.int (jp (0 ≤ a2.toInt ∧ a2.toInt ≤ 146399))] _ 0 0 _
  refine x_ifeq (tgt := 18) rfl rfl (jpe ⟨fun c1 => ?_, fun c1 => ?_⟩)
  ·
    refine x_iconst (v := (-1)) rfl ki_m1 ?_
    refine x_iret rfl rfl ?_
    show jX m_X11_kin 100 0 0 6 [(0, .ref 31), (1, .int a1), (2, .int a2), (3, .int a3), (4, .int a4)] [.int (-1)] _ 0 0 _
    refine x_istore (ls' := [(5, .int (-1)), (0, .ref 31), (1, .int a1), (2, .int a2), (3, .int a3), (4, .int a4)]) rfl rfl rfl ?_
    refine x_iload (x := (-1)) rfl rfl ?_
    refine x_iconst (v := (-1)) rfl ki_m1 ?_
    refine x_icne (tgt := 16) rfl rfl (bn_f (by decide) ?_)
    refine x_iconst (v := (-1)) rfl ki_m1 ?_
    refine x_iret rfl rfl ?_
    exact jqe (show sp_kin a1 a2 a3 a4 = (-1) by unfold sp_kin; (repeat' split) <;> first | rfl | (exfalso; omega)) (hQ _ FM O)
  ·
    refine x_aloadn (x := 31) rfl rfl ?_
    refine x_getR (b := 78) 11 4 rfl f_11_41 rfl (congrArg Prod.fst (F.1 31 (11, 13) rfl rfl)) (F.2.1 3972 78 rfl rfl) ?_
    refine x_iloadn (x := a1) rfl rfl ?_
    refine x_inv (N := m_X7_isMention) (As := [.int a1]) (b := 78) (st := []) (d' := 98) (mc := 0) (ms := 0) (host := "") 7 rfl t_X7_isMention ⟨Or.inl q_11_187, i_X7_isMention.1, i_X7_isMention.2⟩ ⟨by decide, rfl⟩ (congrArg Prod.fst (F.1 78 (7, 16) rfl rfl)) rfl (by decide) rfl rfl ⟨by decide, by decide⟩ (jC.of rfl k_X7_isMention rfl ?_)
    show jX m_X7_isMention 98 0 0 0 [(0, .ref 78), (1, .int a1)] [] _ 0 0 _
    refine x_iloadn (x := a1) rfl rfl ?_
    refine x_iflt (tgt := 41) rfl rfl (ti_lt (show (a1 : Int32).toInt = a1.toInt from rfl) (show (0 : Int32).toInt = 0 by decide) ⟨fun c2 => ?_, fun c2 => ?_⟩)
    ·
      refine x_iconst (v := 0) rfl ki_0 ?_
      refine x_zret rfl rfl (by first | decide | exact jp_01 _) ?_
      show jX m_X11_soulOn 99 0 0 15 [(0, .ref 31), (1, .int a1), (2, .int a2)] [.int 0] _ 0 0 _
      refine x_ifne (tgt := 20) rfl rfl (bn_f (by decide) ?_)
      refine x_iconst (v := (-1)) rfl ki_m1 ?_
      refine x_iret rfl rfl ?_
      show jX m_X11_kin 100 0 0 6 [(0, .ref 31), (1, .int a1), (2, .int a2), (3, .int a3), (4, .int a4)] [.int (-1)] _ 0 0 _
      refine x_istore (ls' := [(5, .int (-1)), (0, .ref 31), (1, .int a1), (2, .int a2), (3, .int a3), (4, .int a4)]) rfl rfl rfl ?_
      refine x_iload (x := (-1)) rfl rfl ?_
      refine x_iconst (v := (-1)) rfl ki_m1 ?_
      refine x_icne (tgt := 16) rfl rfl (bn_f (by decide) ?_)
      refine x_iconst (v := (-1)) rfl ki_m1 ?_
      refine x_iret rfl rfl ?_
      exact jqe (show sp_kin a1 a2 a3 a4 = (-1) by unfold sp_kin; (repeat' split) <;> first | rfl | (exfalso; omega)) (hQ _ FM O)
    ·
      refine x_iloadn (x := a1) rfl rfl ?_
      refine x_sipush (v := 600) rfl ks_600 ?_
      refine x_icge (tgt := 41) rfl rfl (ti_ge (show (a1 : Int32).toInt = a1.toInt from rfl) (show (600 : Int32).toInt = 600 by decide) ⟨fun c3 => ?_, fun c3 => ?_⟩)
      ·
        refine x_iconst (v := 0) rfl ki_0 ?_
        refine x_zret rfl rfl (by first | decide | exact jp_01 _) ?_
        show jX m_X11_soulOn 99 0 0 15 [(0, .ref 31), (1, .int a1), (2, .int a2)] [.int 0] _ 0 0 _
        refine x_ifne (tgt := 20) rfl rfl (bn_f (by decide) ?_)
        refine x_iconst (v := (-1)) rfl ki_m1 ?_
        refine x_iret rfl rfl ?_
        show jX m_X11_kin 100 0 0 6 [(0, .ref 31), (1, .int a1), (2, .int a2), (3, .int a3), (4, .int a4)] [.int (-1)] _ 0 0 _
        refine x_istore (ls' := [(5, .int (-1)), (0, .ref 31), (1, .int a1), (2, .int a2), (3, .int a3), (4, .int a4)]) rfl rfl rfl ?_
        refine x_iload (x := (-1)) rfl rfl ?_
        refine x_iconst (v := (-1)) rfl ki_m1 ?_
        refine x_icne (tgt := 16) rfl rfl (bn_f (by decide) ?_)
        refine x_iconst (v := (-1)) rfl ki_m1 ?_
        refine x_iret rfl rfl ?_
        exact jqe (show sp_kin a1 a2 a3 a4 = (-1) by unfold sp_kin; (repeat' split) <;> first | rfl | (exfalso; omega)) (hQ _ FM O)
      ·
        refine x_iloadn (x := a1) rfl rfl ?_
        refine x_iconst (v := 3) rfl ki_3 ?_
        refine x_idiv rfl (by decide) ?_
        have c4 := jdivn (x := a1) (y := 3) (n := 3) (by decide) (by decide) (by omega)
        refine x_aloadn (x := 78) rfl rfl ?_
        refine x_getR (b := 32) 7 0 rfl f_7_55 rfl (congrArg Prod.fst (F.1 78 (7, 16) rfl rfl)) (F.2.1 9984 32 rfl rfl) ?_
        refine x_getR (b := 33) 1 0 rfl f_7_63 rfl (congrArg Prod.fst (F.1 32 (1, 20) rfl rfl)) (F.2.1 4096 33 rfl rfl) ?_
        refine y_getI (v := 0) 8 3 rfl f_7_85 rfl (congrArg Prod.fst (F.1 33 (8, 4) rfl rfl)) (F.2.2.1 4227 0 rfl rfl) ?_
        refine x_icge (tgt := 41) rfl rfl (ti_ge (show (a1 / 3 : Int32).toInt = (a1 / 3).toInt from rfl) (show (0 : Int32).toInt = 0 by decide) ⟨fun c5 => ?_, fun c5 => ?_⟩)
        ·
          refine x_iconst (v := 0) rfl ki_0 ?_
          refine x_zret rfl rfl (by first | decide | exact jp_01 _) ?_
          show jX m_X11_soulOn 99 0 0 15 [(0, .ref 31), (1, .int a1), (2, .int a2)] [.int 0] _ 0 0 _
          refine x_ifne (tgt := 20) rfl rfl (bn_f (by decide) ?_)
          refine x_iconst (v := (-1)) rfl ki_m1 ?_
          refine x_iret rfl rfl ?_
          show jX m_X11_kin 100 0 0 6 [(0, .ref 31), (1, .int a1), (2, .int a2), (3, .int a3), (4, .int a4)] [.int (-1)] _ 0 0 _
          refine x_istore (ls' := [(5, .int (-1)), (0, .ref 31), (1, .int a1), (2, .int a2), (3, .int a3), (4, .int a4)]) rfl rfl rfl ?_
          refine x_iload (x := (-1)) rfl rfl ?_
          refine x_iconst (v := (-1)) rfl ki_m1 ?_
          refine x_icne (tgt := 16) rfl rfl (bn_f (by decide) ?_)
          refine x_iconst (v := (-1)) rfl ki_m1 ?_
          refine x_iret rfl rfl ?_
          exact jqe (show sp_kin a1 a2 a3 a4 = (-1) by unfold sp_kin; (repeat' split) <;> first | rfl | (exfalso; omega)) (hQ _ FM O)
        ·
          exfalso
          omega
set_option maxRecDepth 100000 in
set_option maxHeartbeats 40000000 in
theorem pm_kin (a1 a2 a3 a4 : Int32) {xs : Nat → Int32} {h : jH} {Q : Option Value → jH → Prop} (F : jFb 125 h) (O : jOl 7 xs h) (hQ : ∀ h', jOl 7 xs h' → Q (some (.int (sp_kin a1 a2 a3 a4))) h') : jC m_X12_kin 100 0 0 [.ref 125, .int a1, .int a2, .int a3, .int a4] h Q := by
  refine jC.of rfl k_X12_kin rfl ?_
  show jX m_X12_kin 100 0 0 0 [(0, .ref 125), (1, .int a1), (2, .int a2), (3, .int a3), (4, .int a4)] [] _ 0 0 _
  refine x_aloadn (x := 125) rfl rfl ?_
  refine x_iconst (v := 0) rfl ki_0 ?_
  refine x_putI 12 0 rfl f_12_180 rfl (jfin_no TX12 RX12 92 rfl rfl) (congrArg Prod.fst (F.1 125 (12, 92) rfl rfl)) rfl ?_
  refine x_aloadn (x := 125) rfl rfl ?_
  refine x_iloadn (x := a1) rfl rfl ?_
  refine x_iloadn (x := a2) rfl rfl ?_
  refine x_inv (N := m_X12_soulAt) (As := [.int a1, .int a2]) (b := 125) (st := []) (d' := 99) (mc := 0) (ms := 0) (host := "") 12 rfl t_X12_soulAt ⟨Or.inl q_12_399, i_X12_soulAt.1, i_X12_soulAt.2⟩ ⟨by decide, rfl⟩ (congrArg Prod.fst (sh_si (F.1 125 (12, 92) rfl rfl))) rfl (by decide) rfl rfl ⟨by decide, by decide⟩ (jC.of rfl k_X12_soulAt rfl ?_)
  show jX m_X12_soulAt 99 0 0 0 [(0, .ref 125), (1, .int a1), (2, .int a2)] [] _ 0 0 _
  refine x_aloadn (x := 125) rfl rfl ?_
  refine x_iloadn (x := a1) rfl rfl ?_
  refine x_inv (N := m_X12_isMention) (As := [.int a1]) (b := 125) (st := []) (d' := 98) (mc := 0) (ms := 0) (host := "") 12 rfl t_X12_isMention ⟨Or.inl q_12_322, i_X12_isMention.1, i_X12_isMention.2⟩ ⟨by decide, rfl⟩ (congrArg Prod.fst (sh_si (F.1 125 (12, 92) rfl rfl))) rfl (by decide) rfl rfl ⟨by decide, by decide⟩ (jC.of rfl k_X12_isMention rfl ?_)
  show jX m_X12_isMention 98 0 0 0 [(0, .ref 125), (1, .int a1)] [] _ 0 0 _
  refine x_iloadn (x := a1) rfl rfl ?_
  refine x_iflt (tgt := 34) rfl rfl (ti_lt (show (a1 : Int32).toInt = a1.toInt from rfl) (show (0 : Int32).toInt = 0 by decide) ⟨fun c1 => ?_, fun c1 => ?_⟩)
  ·
    refine x_iconst (v := 0) rfl ki_0 ?_
    refine x_zret rfl rfl (by first | decide | exact jp_01 _) ?_
    show jX m_X12_soulAt 99 0 0 5 [(0, .ref 125), (1, .int a1), (2, .int a2)] [.int 0] _ 0 0 _
    refine x_ifeq (tgt := 15) rfl rfl (br_t (by decide) ?_)
    refine x_iconst (v := (-1)) rfl ki_m1 ?_
    refine x_iret rfl rfl ?_
    show jX m_X12_kin 100 0 0 11 [(0, .ref 125), (1, .int a1), (2, .int a2), (3, .int a3), (4, .int a4)] [.int (-1)] _ 0 0 _
    refine x_istore (ls' := [(5, .int (-1)), (0, .ref 125), (1, .int a1), (2, .int a2), (3, .int a3), (4, .int a4)]) rfl rfl rfl ?_
    refine x_iload (x := (-1)) rfl rfl ?_
    refine x_iconst (v := (-1)) rfl ki_m1 ?_
    refine x_iceq (tgt := 31) rfl rfl (br_t (by decide) ?_)
    refine x_iconst (v := (-1)) rfl ki_m1 ?_
    refine x_iret rfl rfl ?_
    exact jqe (show sp_kin a1 a2 a3 a4 = (-1) by unfold sp_kin; (repeat' split) <;> first | rfl | (exfalso; omega)) (hQ _ (jOl_si rfl O))
  ·
    refine x_aloadn (x := 125) rfl rfl ?_
    refine x_iloadn (x := a1) rfl rfl ?_
    refine x_iconst (v := 3) rfl ki_3 ?_
    refine x_idiv rfl (by decide) ?_
    have c2 := jdivn (x := a1) (y := 3) (n := 3) (by decide) (by decide) (by omega)
    refine x_inv (N := m_X12_isLine) (As := [.int (a1 / 3)]) (b := 125) (st := []) (d' := 97) (mc := 0) (ms := 0) (host := "") 12 rfl t_X12_isLine ⟨Or.inl q_12_293, i_X12_isLine.1, i_X12_isLine.2⟩ ⟨by decide, rfl⟩ (congrArg Prod.fst (sh_si (F.1 125 (12, 92) rfl rfl))) rfl (by decide) rfl rfl ⟨by decide, by decide⟩ (jC.of rfl k_X12_isLine rfl ?_)
    show jX m_X12_isLine 97 0 0 0 [(0, .ref 125), (1, .int (a1 / 3))] [] _ 0 0 _
    refine x_iloadn (x := a1 / 3) rfl rfl ?_
    refine x_i2l rfl ?_
    refine x_lconst (v := 0) rfl kl_0 ?_
    refine x_aloadn (x := 125) rfl rfl ?_
    refine x_getR (b := 126) 12 2 rfl f_12_8 rfl (congrArg Prod.fst (sh_si (F.1 125 (12, 92) rfl rfl))) (rv_si (F.2.1 16002 126 rfl rfl)) ?_
    refine x_iconst (v := 0) rfl ki_0 ?_
    refine y_iald (v := 0) (N := 50660) 0 rfl (sh_si (F.1 126 (100, 50660) rfl rfl)) (jinb_of (by decide)) (by decide) (iv_si rfl (F.2.2.2.1 126 rfl rfl 0).1) ?_
    refine y_i2l (v := 0) rfl (by decide) ?_
    refine x_lconst (v := 1) rfl kl_1 ?_
    refine y_lsub (v := (-1)) rfl (by decide) ?_
    refine x_inst (N := m_X12_in) (As := [.long ((a1 / 3).toInt64), .long 0, .long (-1)]) (st := []) (d' := 96) (mc := 0) (ms := 0) (host := "") rfl t_X12_in ⟨Or.inl q_12_188, s_X12_in⟩ rfl (by decide) rfl rfl ⟨by decide, by decide⟩ (c_X12_in (m := (a1 / 3).toInt) (a := 0) (b := (-1)) (jt_l _) (by decide) (by decide) ?_)
    show jX m_X12_isLine 97 0 0 15 [(0, .ref 125), (1, .int (a1 / 3))] [.int (jp (0 ≤ (a1 / 3).toInt ∧ (a1 / 3).toInt ≤ (-1)))] _ 0 0 _
    refine x_zret rfl rfl (by first | decide | exact jp_01 _) ?_
    show jX m_X12_isMention 98 0 0 11 [(0, .ref 125), (1, .int a1)] [.int (jp (0 ≤ (a1 / 3).toInt ∧ (a1 / 3).toInt ≤ (-1)))] _ 0 0 _
    refine x_ifeq (tgt := 34) rfl rfl (jpe ⟨fun c3 => ?_, fun c3 => ?_⟩)
    ·
      refine x_iconst (v := 0) rfl ki_0 ?_
      refine x_zret rfl rfl (by first | decide | exact jp_01 _) ?_
      show jX m_X12_soulAt 99 0 0 5 [(0, .ref 125), (1, .int a1), (2, .int a2)] [.int 0] _ 0 0 _
      refine x_ifeq (tgt := 15) rfl rfl (br_t (by decide) ?_)
      refine x_iconst (v := (-1)) rfl ki_m1 ?_
      refine x_iret rfl rfl ?_
      show jX m_X12_kin 100 0 0 11 [(0, .ref 125), (1, .int a1), (2, .int a2), (3, .int a3), (4, .int a4)] [.int (-1)] _ 0 0 _
      refine x_istore (ls' := [(5, .int (-1)), (0, .ref 125), (1, .int a1), (2, .int a2), (3, .int a3), (4, .int a4)]) rfl rfl rfl ?_
      refine x_iload (x := (-1)) rfl rfl ?_
      refine x_iconst (v := (-1)) rfl ki_m1 ?_
      refine x_iceq (tgt := 31) rfl rfl (br_t (by decide) ?_)
      refine x_iconst (v := (-1)) rfl ki_m1 ?_
      refine x_iret rfl rfl ?_
      exact jqe (show sp_kin a1 a2 a3 a4 = (-1) by unfold sp_kin; (repeat' split) <;> first | rfl | (exfalso; omega)) (hQ _ (jOl_si rfl O))
    ·
      exfalso
      omega
def sp_span (a1 a2 a3 : Int32) : Int32 := (-1)
set_option maxRecDepth 100000 in
set_option maxHeartbeats 40000000 in
theorem px_span (a1 a2 a3 : Int32) {xs : Nat → Int32} {h : jH} {Q : Option Value → jH → Prop} (F : jFb 31 h) (O : jOl 7 xs h) (hQ : ∀ h', jFb 125 h' → jOl 7 xs h' → Q (some (.int (sp_span a1 a2 a3))) h') : jC m_X11_span 100 0 0 [.ref 31, .int a1, .int a2, .int a3] h Q := by
  have FM := jFb_up 125 rfl F
  refine jC.of rfl k_X11_span rfl ?_
  show jX m_X11_span 100 0 0 0 [(0, .ref 31), (1, .int a1), (2, .int a2), (3, .int a3)] [] _ 0 0 _
  refine x_aloadn (x := 31) rfl rfl ?_
  refine x_iloadn (x := a1) rfl rfl ?_
  refine x_iloadn (x := a2) rfl rfl ?_
  refine x_inv (N := m_X11_soulOn) (As := [.int a1, .int a2]) (b := 31) (st := []) (d' := 99) (mc := 0) (ms := 0) (host := "") 11 rfl t_X11_soulOn ⟨Or.inl q_11_234, i_X11_soulOn.1, i_X11_soulOn.2⟩ ⟨by decide, rfl⟩ (congrArg Prod.fst (F.1 31 (11, 13) rfl rfl)) rfl (by decide) rfl rfl ⟨by decide, by decide⟩ (jC.of rfl k_X11_soulOn rfl ?_)
  show jX m_X11_soulOn 99 0 0 0 [(0, .ref 31), (1, .int a1), (2, .int a2)] [] _ 0 0 _
  refine x_iloadn (x := a2) rfl rfl ?_
  refine x_inst (N := m_X11_isDay) (As := [.int a2]) (st := []) (d' := 98) (mc := 0) (ms := 0) (host := "") rfl t_X11_isDay ⟨Or.inl q_11_115, s_X11_isDay⟩ rfl (by decide) rfl rfl ⟨by decide, by decide⟩ (c_X11_isDay (x := a2) ?_)
  show jX m_X11_soulOn 99 0 0 4 [(0, .ref 31), (1, .int a1), (2, .int a2)] [.int (jp (0 ≤ a2.toInt ∧ a2.toInt ≤ 146399))] _ 0 0 _
  refine x_ifeq (tgt := 18) rfl rfl (jpe ⟨fun c1 => ?_, fun c1 => ?_⟩)
  ·
    refine x_iconst (v := (-1)) rfl ki_m1 ?_
    refine x_iret rfl rfl ?_
    show jX m_X11_span 100 0 0 6 [(0, .ref 31), (1, .int a1), (2, .int a2), (3, .int a3)] [.int (-1)] _ 0 0 _
    refine x_istore (ls' := [(4, .int (-1)), (0, .ref 31), (1, .int a1), (2, .int a2), (3, .int a3)]) rfl rfl rfl ?_
    refine x_iload (x := (-1)) rfl rfl ?_
    refine x_iconst (v := (-1)) rfl ki_m1 ?_
    refine x_iceq (tgt := 23) rfl rfl (br_t (by decide) ?_)
    refine x_iconst (v := (-1)) rfl ki_m1 ?_
    refine x_iret rfl rfl ?_
    exact jqe (show sp_span a1 a2 a3 = (-1) by unfold sp_span; (repeat' split) <;> first | rfl | (exfalso; omega)) (hQ _ FM O)
  ·
    refine x_aloadn (x := 31) rfl rfl ?_
    refine x_getR (b := 78) 11 4 rfl f_11_41 rfl (congrArg Prod.fst (F.1 31 (11, 13) rfl rfl)) (F.2.1 3972 78 rfl rfl) ?_
    refine x_iloadn (x := a1) rfl rfl ?_
    refine x_inv (N := m_X7_isMention) (As := [.int a1]) (b := 78) (st := []) (d' := 98) (mc := 0) (ms := 0) (host := "") 7 rfl t_X7_isMention ⟨Or.inl q_11_187, i_X7_isMention.1, i_X7_isMention.2⟩ ⟨by decide, rfl⟩ (congrArg Prod.fst (F.1 78 (7, 16) rfl rfl)) rfl (by decide) rfl rfl ⟨by decide, by decide⟩ (jC.of rfl k_X7_isMention rfl ?_)
    show jX m_X7_isMention 98 0 0 0 [(0, .ref 78), (1, .int a1)] [] _ 0 0 _
    refine x_iloadn (x := a1) rfl rfl ?_
    refine x_iflt (tgt := 41) rfl rfl (ti_lt (show (a1 : Int32).toInt = a1.toInt from rfl) (show (0 : Int32).toInt = 0 by decide) ⟨fun c2 => ?_, fun c2 => ?_⟩)
    ·
      refine x_iconst (v := 0) rfl ki_0 ?_
      refine x_zret rfl rfl (by first | decide | exact jp_01 _) ?_
      show jX m_X11_soulOn 99 0 0 15 [(0, .ref 31), (1, .int a1), (2, .int a2)] [.int 0] _ 0 0 _
      refine x_ifne (tgt := 20) rfl rfl (bn_f (by decide) ?_)
      refine x_iconst (v := (-1)) rfl ki_m1 ?_
      refine x_iret rfl rfl ?_
      show jX m_X11_span 100 0 0 6 [(0, .ref 31), (1, .int a1), (2, .int a2), (3, .int a3)] [.int (-1)] _ 0 0 _
      refine x_istore (ls' := [(4, .int (-1)), (0, .ref 31), (1, .int a1), (2, .int a2), (3, .int a3)]) rfl rfl rfl ?_
      refine x_iload (x := (-1)) rfl rfl ?_
      refine x_iconst (v := (-1)) rfl ki_m1 ?_
      refine x_iceq (tgt := 23) rfl rfl (br_t (by decide) ?_)
      refine x_iconst (v := (-1)) rfl ki_m1 ?_
      refine x_iret rfl rfl ?_
      exact jqe (show sp_span a1 a2 a3 = (-1) by unfold sp_span; (repeat' split) <;> first | rfl | (exfalso; omega)) (hQ _ FM O)
    ·
      refine x_iloadn (x := a1) rfl rfl ?_
      refine x_sipush (v := 600) rfl ks_600 ?_
      refine x_icge (tgt := 41) rfl rfl (ti_ge (show (a1 : Int32).toInt = a1.toInt from rfl) (show (600 : Int32).toInt = 600 by decide) ⟨fun c3 => ?_, fun c3 => ?_⟩)
      ·
        refine x_iconst (v := 0) rfl ki_0 ?_
        refine x_zret rfl rfl (by first | decide | exact jp_01 _) ?_
        show jX m_X11_soulOn 99 0 0 15 [(0, .ref 31), (1, .int a1), (2, .int a2)] [.int 0] _ 0 0 _
        refine x_ifne (tgt := 20) rfl rfl (bn_f (by decide) ?_)
        refine x_iconst (v := (-1)) rfl ki_m1 ?_
        refine x_iret rfl rfl ?_
        show jX m_X11_span 100 0 0 6 [(0, .ref 31), (1, .int a1), (2, .int a2), (3, .int a3)] [.int (-1)] _ 0 0 _
        refine x_istore (ls' := [(4, .int (-1)), (0, .ref 31), (1, .int a1), (2, .int a2), (3, .int a3)]) rfl rfl rfl ?_
        refine x_iload (x := (-1)) rfl rfl ?_
        refine x_iconst (v := (-1)) rfl ki_m1 ?_
        refine x_iceq (tgt := 23) rfl rfl (br_t (by decide) ?_)
        refine x_iconst (v := (-1)) rfl ki_m1 ?_
        refine x_iret rfl rfl ?_
        exact jqe (show sp_span a1 a2 a3 = (-1) by unfold sp_span; (repeat' split) <;> first | rfl | (exfalso; omega)) (hQ _ FM O)
      ·
        refine x_iloadn (x := a1) rfl rfl ?_
        refine x_iconst (v := 3) rfl ki_3 ?_
        refine x_idiv rfl (by decide) ?_
        have c4 := jdivn (x := a1) (y := 3) (n := 3) (by decide) (by decide) (by omega)
        refine x_aloadn (x := 78) rfl rfl ?_
        refine x_getR (b := 32) 7 0 rfl f_7_55 rfl (congrArg Prod.fst (F.1 78 (7, 16) rfl rfl)) (F.2.1 9984 32 rfl rfl) ?_
        refine x_getR (b := 33) 1 0 rfl f_7_63 rfl (congrArg Prod.fst (F.1 32 (1, 20) rfl rfl)) (F.2.1 4096 33 rfl rfl) ?_
        refine y_getI (v := 0) 8 3 rfl f_7_85 rfl (congrArg Prod.fst (F.1 33 (8, 4) rfl rfl)) (F.2.2.1 4227 0 rfl rfl) ?_
        refine x_icge (tgt := 41) rfl rfl (ti_ge (show (a1 / 3 : Int32).toInt = (a1 / 3).toInt from rfl) (show (0 : Int32).toInt = 0 by decide) ⟨fun c5 => ?_, fun c5 => ?_⟩)
        ·
          refine x_iconst (v := 0) rfl ki_0 ?_
          refine x_zret rfl rfl (by first | decide | exact jp_01 _) ?_
          show jX m_X11_soulOn 99 0 0 15 [(0, .ref 31), (1, .int a1), (2, .int a2)] [.int 0] _ 0 0 _
          refine x_ifne (tgt := 20) rfl rfl (bn_f (by decide) ?_)
          refine x_iconst (v := (-1)) rfl ki_m1 ?_
          refine x_iret rfl rfl ?_
          show jX m_X11_span 100 0 0 6 [(0, .ref 31), (1, .int a1), (2, .int a2), (3, .int a3)] [.int (-1)] _ 0 0 _
          refine x_istore (ls' := [(4, .int (-1)), (0, .ref 31), (1, .int a1), (2, .int a2), (3, .int a3)]) rfl rfl rfl ?_
          refine x_iload (x := (-1)) rfl rfl ?_
          refine x_iconst (v := (-1)) rfl ki_m1 ?_
          refine x_iceq (tgt := 23) rfl rfl (br_t (by decide) ?_)
          refine x_iconst (v := (-1)) rfl ki_m1 ?_
          refine x_iret rfl rfl ?_
          exact jqe (show sp_span a1 a2 a3 = (-1) by unfold sp_span; (repeat' split) <;> first | rfl | (exfalso; omega)) (hQ _ FM O)
        ·
          exfalso
          omega
set_option maxRecDepth 100000 in
set_option maxHeartbeats 40000000 in
theorem pm_span (a1 a2 a3 : Int32) {xs : Nat → Int32} {h : jH} {Q : Option Value → jH → Prop} (F : jFb 125 h) (O : jOl 7 xs h) (hQ : ∀ h', jOl 7 xs h' → Q (some (.int (sp_span a1 a2 a3))) h') : jC m_X12_span 100 0 0 [.ref 125, .int a1, .int a2, .int a3] h Q := by
  refine jC.of rfl k_X12_span rfl ?_
  show jX m_X12_span 100 0 0 0 [(0, .ref 125), (1, .int a1), (2, .int a2), (3, .int a3)] [] _ 0 0 _
  refine x_aloadn (x := 125) rfl rfl ?_
  refine x_iconst (v := 0) rfl ki_0 ?_
  refine x_putI 12 0 rfl f_12_180 rfl (jfin_no TX12 RX12 92 rfl rfl) (congrArg Prod.fst (F.1 125 (12, 92) rfl rfl)) rfl ?_
  refine x_aloadn (x := 125) rfl rfl ?_
  refine x_iloadn (x := a1) rfl rfl ?_
  refine x_iloadn (x := a2) rfl rfl ?_
  refine x_inv (N := m_X12_soulAt) (As := [.int a1, .int a2]) (b := 125) (st := []) (d' := 99) (mc := 0) (ms := 0) (host := "") 12 rfl t_X12_soulAt ⟨Or.inl q_12_399, i_X12_soulAt.1, i_X12_soulAt.2⟩ ⟨by decide, rfl⟩ (congrArg Prod.fst (sh_si (F.1 125 (12, 92) rfl rfl))) rfl (by decide) rfl rfl ⟨by decide, by decide⟩ (jC.of rfl k_X12_soulAt rfl ?_)
  show jX m_X12_soulAt 99 0 0 0 [(0, .ref 125), (1, .int a1), (2, .int a2)] [] _ 0 0 _
  refine x_aloadn (x := 125) rfl rfl ?_
  refine x_iloadn (x := a1) rfl rfl ?_
  refine x_inv (N := m_X12_isMention) (As := [.int a1]) (b := 125) (st := []) (d' := 98) (mc := 0) (ms := 0) (host := "") 12 rfl t_X12_isMention ⟨Or.inl q_12_322, i_X12_isMention.1, i_X12_isMention.2⟩ ⟨by decide, rfl⟩ (congrArg Prod.fst (sh_si (F.1 125 (12, 92) rfl rfl))) rfl (by decide) rfl rfl ⟨by decide, by decide⟩ (jC.of rfl k_X12_isMention rfl ?_)
  show jX m_X12_isMention 98 0 0 0 [(0, .ref 125), (1, .int a1)] [] _ 0 0 _
  refine x_iloadn (x := a1) rfl rfl ?_
  refine x_iflt (tgt := 34) rfl rfl (ti_lt (show (a1 : Int32).toInt = a1.toInt from rfl) (show (0 : Int32).toInt = 0 by decide) ⟨fun c1 => ?_, fun c1 => ?_⟩)
  ·
    refine x_iconst (v := 0) rfl ki_0 ?_
    refine x_zret rfl rfl (by first | decide | exact jp_01 _) ?_
    show jX m_X12_soulAt 99 0 0 5 [(0, .ref 125), (1, .int a1), (2, .int a2)] [.int 0] _ 0 0 _
    refine x_ifeq (tgt := 15) rfl rfl (br_t (by decide) ?_)
    refine x_iconst (v := (-1)) rfl ki_m1 ?_
    refine x_iret rfl rfl ?_
    show jX m_X12_span 100 0 0 11 [(0, .ref 125), (1, .int a1), (2, .int a2), (3, .int a3)] [.int (-1)] _ 0 0 _
    refine x_istore (ls' := [(4, .int (-1)), (0, .ref 125), (1, .int a1), (2, .int a2), (3, .int a3)]) rfl rfl rfl ?_
    refine x_iload (x := (-1)) rfl rfl ?_
    refine x_iconst (v := (-1)) rfl ki_m1 ?_
    refine x_iceq (tgt := 31) rfl rfl (br_t (by decide) ?_)
    refine x_iconst (v := (-1)) rfl ki_m1 ?_
    refine x_iret rfl rfl ?_
    exact jqe (show sp_span a1 a2 a3 = (-1) by unfold sp_span; (repeat' split) <;> first | rfl | (exfalso; omega)) (hQ _ (jOl_si rfl O))
  ·
    refine x_aloadn (x := 125) rfl rfl ?_
    refine x_iloadn (x := a1) rfl rfl ?_
    refine x_iconst (v := 3) rfl ki_3 ?_
    refine x_idiv rfl (by decide) ?_
    have c2 := jdivn (x := a1) (y := 3) (n := 3) (by decide) (by decide) (by omega)
    refine x_inv (N := m_X12_isLine) (As := [.int (a1 / 3)]) (b := 125) (st := []) (d' := 97) (mc := 0) (ms := 0) (host := "") 12 rfl t_X12_isLine ⟨Or.inl q_12_293, i_X12_isLine.1, i_X12_isLine.2⟩ ⟨by decide, rfl⟩ (congrArg Prod.fst (sh_si (F.1 125 (12, 92) rfl rfl))) rfl (by decide) rfl rfl ⟨by decide, by decide⟩ (jC.of rfl k_X12_isLine rfl ?_)
    show jX m_X12_isLine 97 0 0 0 [(0, .ref 125), (1, .int (a1 / 3))] [] _ 0 0 _
    refine x_iloadn (x := a1 / 3) rfl rfl ?_
    refine x_i2l rfl ?_
    refine x_lconst (v := 0) rfl kl_0 ?_
    refine x_aloadn (x := 125) rfl rfl ?_
    refine x_getR (b := 126) 12 2 rfl f_12_8 rfl (congrArg Prod.fst (sh_si (F.1 125 (12, 92) rfl rfl))) (rv_si (F.2.1 16002 126 rfl rfl)) ?_
    refine x_iconst (v := 0) rfl ki_0 ?_
    refine y_iald (v := 0) (N := 50660) 0 rfl (sh_si (F.1 126 (100, 50660) rfl rfl)) (jinb_of (by decide)) (by decide) (iv_si rfl (F.2.2.2.1 126 rfl rfl 0).1) ?_
    refine y_i2l (v := 0) rfl (by decide) ?_
    refine x_lconst (v := 1) rfl kl_1 ?_
    refine y_lsub (v := (-1)) rfl (by decide) ?_
    refine x_inst (N := m_X12_in) (As := [.long ((a1 / 3).toInt64), .long 0, .long (-1)]) (st := []) (d' := 96) (mc := 0) (ms := 0) (host := "") rfl t_X12_in ⟨Or.inl q_12_188, s_X12_in⟩ rfl (by decide) rfl rfl ⟨by decide, by decide⟩ (c_X12_in (m := (a1 / 3).toInt) (a := 0) (b := (-1)) (jt_l _) (by decide) (by decide) ?_)
    show jX m_X12_isLine 97 0 0 15 [(0, .ref 125), (1, .int (a1 / 3))] [.int (jp (0 ≤ (a1 / 3).toInt ∧ (a1 / 3).toInt ≤ (-1)))] _ 0 0 _
    refine x_zret rfl rfl (by first | decide | exact jp_01 _) ?_
    show jX m_X12_isMention 98 0 0 11 [(0, .ref 125), (1, .int a1)] [.int (jp (0 ≤ (a1 / 3).toInt ∧ (a1 / 3).toInt ≤ (-1)))] _ 0 0 _
    refine x_ifeq (tgt := 34) rfl rfl (jpe ⟨fun c3 => ?_, fun c3 => ?_⟩)
    ·
      refine x_iconst (v := 0) rfl ki_0 ?_
      refine x_zret rfl rfl (by first | decide | exact jp_01 _) ?_
      show jX m_X12_soulAt 99 0 0 5 [(0, .ref 125), (1, .int a1), (2, .int a2)] [.int 0] _ 0 0 _
      refine x_ifeq (tgt := 15) rfl rfl (br_t (by decide) ?_)
      refine x_iconst (v := (-1)) rfl ki_m1 ?_
      refine x_iret rfl rfl ?_
      show jX m_X12_span 100 0 0 11 [(0, .ref 125), (1, .int a1), (2, .int a2), (3, .int a3)] [.int (-1)] _ 0 0 _
      refine x_istore (ls' := [(4, .int (-1)), (0, .ref 125), (1, .int a1), (2, .int a2), (3, .int a3)]) rfl rfl rfl ?_
      refine x_iload (x := (-1)) rfl rfl ?_
      refine x_iconst (v := (-1)) rfl ki_m1 ?_
      refine x_iceq (tgt := 31) rfl rfl (br_t (by decide) ?_)
      refine x_iconst (v := (-1)) rfl ki_m1 ?_
      refine x_iret rfl rfl ?_
      exact jqe (show sp_span a1 a2 a3 = (-1) by unfold sp_span; (repeat' split) <;> first | rfl | (exfalso; omega)) (hQ _ (jOl_si rfl O))
    ·
      exfalso
      omega
def sp_wish (a1 : Int32) : Int32 := (-2)
set_option maxRecDepth 100000 in
set_option maxHeartbeats 40000000 in
theorem px_wish (a1 : Int32) {xs : Nat → Int32} {h : jH} {Q : Option Value → jH → Prop} (F : jFb 31 h) (O : jOl 7 xs h) (hQ : ∀ h', jFb 125 h' → jOl 7 xs h' → Q (some (.int (sp_wish a1))) h') : jC m_X11_wish 100 0 0 [.ref 31, .int a1] h Q := by
  have FM := jFb_up 125 rfl F
  refine jC.of rfl k_X11_wish rfl ?_
  show jX m_X11_wish 100 0 0 0 [(0, .ref 31), (1, .int a1)] [] _ 0 0 _
  refine x_aloadn (x := 31) rfl rfl ?_
  refine x_getR (b := 78) 11 4 rfl f_11_41 rfl (congrArg Prod.fst (F.1 31 (11, 13) rfl rfl)) (F.2.1 3972 78 rfl rfl) ?_
  refine x_iloadn (x := a1) rfl rfl ?_
  refine x_inv (N := m_X7_isMention) (As := [.int a1]) (b := 78) (st := []) (d' := 99) (mc := 0) (ms := 0) (host := "") 7 rfl t_X7_isMention ⟨Or.inl q_11_187, i_X7_isMention.1, i_X7_isMention.2⟩ ⟨by decide, rfl⟩ (congrArg Prod.fst (F.1 78 (7, 16) rfl rfl)) rfl (by decide) rfl rfl ⟨by decide, by decide⟩ (jC.of rfl k_X7_isMention rfl ?_)
  show jX m_X7_isMention 99 0 0 0 [(0, .ref 78), (1, .int a1)] [] _ 0 0 _
  refine x_iloadn (x := a1) rfl rfl ?_
  refine x_iflt (tgt := 41) rfl rfl (ti_lt (show (a1 : Int32).toInt = a1.toInt from rfl) (show (0 : Int32).toInt = 0 by decide) ⟨fun c1 => ?_, fun c1 => ?_⟩)
  ·
    refine x_iconst (v := 0) rfl ki_0 ?_
    refine x_zret rfl rfl (by first | decide | exact jp_01 _) ?_
    show jX m_X11_wish 100 0 0 8 [(0, .ref 31), (1, .int a1)] [.int 0] _ 0 0 _
    refine x_ifne (tgt := 18) rfl rfl (bn_f (by decide) ?_)
    refine x_aloadn (x := 31) rfl rfl ?_
    refine x_bipush (v := (-2)) rfl kb_m2 ?_
    refine x_inv (N := m_X11_refuse) (As := [.int (-2)]) (b := 31) (st := []) (d' := 99) (mc := 0) (ms := 0) (host := "") 11 rfl t_X11_refuse ⟨Or.inl q_11_206, i_X11_refuse.1, i_X11_refuse.2⟩ ⟨by decide, rfl⟩ (congrArg Prod.fst (F.1 31 (11, 13) rfl rfl)) rfl (by decide) rfl rfl ⟨by decide, by decide⟩ (jC.of rfl k_X11_refuse rfl ?_)
    show jX m_X11_refuse 99 0 0 0 [(0, .ref 31), (1, .int (-2))] [] _ 0 0 _
    refine x_aloadn (x := 31) rfl rfl ?_
    refine x_iloadn (x := (-2)) rfl rfl ?_
    refine x_putI 11 12 rfl f_11_94 rfl (jfin_no TX11 RX11 13 rfl rfl) (congrArg Prod.fst (F.1 31 (11, 13) rfl rfl)) rfl ?_
    refine x_iloadn (x := (-2)) rfl rfl ?_
    refine x_iret rfl rfl ?_
    show jX m_X11_wish 100 0 0 17 [(0, .ref 31), (1, .int a1)] [.int (-2)] _ 0 0 _
    refine x_iret rfl rfl ?_
    exact jqe (show sp_wish a1 = (-2) by unfold sp_wish; (repeat' split) <;> first | rfl | (exfalso; omega)) (hQ _ (jFb_si rfl FM) (jOl_si rfl O))
  ·
    refine x_iloadn (x := a1) rfl rfl ?_
    refine x_sipush (v := 600) rfl ks_600 ?_
    refine x_icge (tgt := 41) rfl rfl (ti_ge (show (a1 : Int32).toInt = a1.toInt from rfl) (show (600 : Int32).toInt = 600 by decide) ⟨fun c2 => ?_, fun c2 => ?_⟩)
    ·
      refine x_iconst (v := 0) rfl ki_0 ?_
      refine x_zret rfl rfl (by first | decide | exact jp_01 _) ?_
      show jX m_X11_wish 100 0 0 8 [(0, .ref 31), (1, .int a1)] [.int 0] _ 0 0 _
      refine x_ifne (tgt := 18) rfl rfl (bn_f (by decide) ?_)
      refine x_aloadn (x := 31) rfl rfl ?_
      refine x_bipush (v := (-2)) rfl kb_m2 ?_
      refine x_inv (N := m_X11_refuse) (As := [.int (-2)]) (b := 31) (st := []) (d' := 99) (mc := 0) (ms := 0) (host := "") 11 rfl t_X11_refuse ⟨Or.inl q_11_206, i_X11_refuse.1, i_X11_refuse.2⟩ ⟨by decide, rfl⟩ (congrArg Prod.fst (F.1 31 (11, 13) rfl rfl)) rfl (by decide) rfl rfl ⟨by decide, by decide⟩ (jC.of rfl k_X11_refuse rfl ?_)
      show jX m_X11_refuse 99 0 0 0 [(0, .ref 31), (1, .int (-2))] [] _ 0 0 _
      refine x_aloadn (x := 31) rfl rfl ?_
      refine x_iloadn (x := (-2)) rfl rfl ?_
      refine x_putI 11 12 rfl f_11_94 rfl (jfin_no TX11 RX11 13 rfl rfl) (congrArg Prod.fst (F.1 31 (11, 13) rfl rfl)) rfl ?_
      refine x_iloadn (x := (-2)) rfl rfl ?_
      refine x_iret rfl rfl ?_
      show jX m_X11_wish 100 0 0 17 [(0, .ref 31), (1, .int a1)] [.int (-2)] _ 0 0 _
      refine x_iret rfl rfl ?_
      exact jqe (show sp_wish a1 = (-2) by unfold sp_wish; (repeat' split) <;> first | rfl | (exfalso; omega)) (hQ _ (jFb_si rfl FM) (jOl_si rfl O))
    ·
      refine x_iloadn (x := a1) rfl rfl ?_
      refine x_iconst (v := 3) rfl ki_3 ?_
      refine x_idiv rfl (by decide) ?_
      have c3 := jdivn (x := a1) (y := 3) (n := 3) (by decide) (by decide) (by omega)
      refine x_aloadn (x := 78) rfl rfl ?_
      refine x_getR (b := 32) 7 0 rfl f_7_55 rfl (congrArg Prod.fst (F.1 78 (7, 16) rfl rfl)) (F.2.1 9984 32 rfl rfl) ?_
      refine x_getR (b := 33) 1 0 rfl f_7_63 rfl (congrArg Prod.fst (F.1 32 (1, 20) rfl rfl)) (F.2.1 4096 33 rfl rfl) ?_
      refine y_getI (v := 0) 8 3 rfl f_7_85 rfl (congrArg Prod.fst (F.1 33 (8, 4) rfl rfl)) (F.2.2.1 4227 0 rfl rfl) ?_
      refine x_icge (tgt := 41) rfl rfl (ti_ge (show (a1 / 3 : Int32).toInt = (a1 / 3).toInt from rfl) (show (0 : Int32).toInt = 0 by decide) ⟨fun c4 => ?_, fun c4 => ?_⟩)
      ·
        refine x_iconst (v := 0) rfl ki_0 ?_
        refine x_zret rfl rfl (by first | decide | exact jp_01 _) ?_
        show jX m_X11_wish 100 0 0 8 [(0, .ref 31), (1, .int a1)] [.int 0] _ 0 0 _
        refine x_ifne (tgt := 18) rfl rfl (bn_f (by decide) ?_)
        refine x_aloadn (x := 31) rfl rfl ?_
        refine x_bipush (v := (-2)) rfl kb_m2 ?_
        refine x_inv (N := m_X11_refuse) (As := [.int (-2)]) (b := 31) (st := []) (d' := 99) (mc := 0) (ms := 0) (host := "") 11 rfl t_X11_refuse ⟨Or.inl q_11_206, i_X11_refuse.1, i_X11_refuse.2⟩ ⟨by decide, rfl⟩ (congrArg Prod.fst (F.1 31 (11, 13) rfl rfl)) rfl (by decide) rfl rfl ⟨by decide, by decide⟩ (jC.of rfl k_X11_refuse rfl ?_)
        show jX m_X11_refuse 99 0 0 0 [(0, .ref 31), (1, .int (-2))] [] _ 0 0 _
        refine x_aloadn (x := 31) rfl rfl ?_
        refine x_iloadn (x := (-2)) rfl rfl ?_
        refine x_putI 11 12 rfl f_11_94 rfl (jfin_no TX11 RX11 13 rfl rfl) (congrArg Prod.fst (F.1 31 (11, 13) rfl rfl)) rfl ?_
        refine x_iloadn (x := (-2)) rfl rfl ?_
        refine x_iret rfl rfl ?_
        show jX m_X11_wish 100 0 0 17 [(0, .ref 31), (1, .int a1)] [.int (-2)] _ 0 0 _
        refine x_iret rfl rfl ?_
        exact jqe (show sp_wish a1 = (-2) by unfold sp_wish; (repeat' split) <;> first | rfl | (exfalso; omega)) (hQ _ (jFb_si rfl FM) (jOl_si rfl O))
      ·
        exfalso
        omega
set_option maxRecDepth 100000 in
set_option maxHeartbeats 40000000 in
theorem pm_wish (a1 : Int32) {xs : Nat → Int32} {h : jH} {Q : Option Value → jH → Prop} (F : jFb 125 h) (O : jOl 7 xs h) (hQ : ∀ h', jOl 7 xs h' → Q (some (.int (sp_wish a1))) h') : jC m_X12_wish 100 0 0 [.ref 125, .int a1] h Q := by
  refine jC.of rfl k_X12_wish rfl ?_
  show jX m_X12_wish 100 0 0 0 [(0, .ref 125), (1, .int a1)] [] _ 0 0 _
  refine x_aloadn (x := 125) rfl rfl ?_
  refine x_iconst (v := 0) rfl ki_0 ?_
  refine x_putI 12 0 rfl f_12_180 rfl (jfin_no TX12 RX12 92 rfl rfl) (congrArg Prod.fst (F.1 125 (12, 92) rfl rfl)) rfl ?_
  refine x_aloadn (x := 125) rfl rfl ?_
  refine x_iloadn (x := a1) rfl rfl ?_
  refine x_inv (N := m_X12_isMention) (As := [.int a1]) (b := 125) (st := []) (d' := 99) (mc := 0) (ms := 0) (host := "") 12 rfl t_X12_isMention ⟨Or.inl q_12_322, i_X12_isMention.1, i_X12_isMention.2⟩ ⟨by decide, rfl⟩ (congrArg Prod.fst (sh_si (F.1 125 (12, 92) rfl rfl))) rfl (by decide) rfl rfl ⟨by decide, by decide⟩ (jC.of rfl k_X12_isMention rfl ?_)
  show jX m_X12_isMention 99 0 0 0 [(0, .ref 125), (1, .int a1)] [] _ 0 0 _
  refine x_iloadn (x := a1) rfl rfl ?_
  refine x_iflt (tgt := 34) rfl rfl (ti_lt (show (a1 : Int32).toInt = a1.toInt from rfl) (show (0 : Int32).toInt = 0 by decide) ⟨fun c1 => ?_, fun c1 => ?_⟩)
  ·
    refine x_iconst (v := 0) rfl ki_0 ?_
    refine x_zret rfl rfl (by first | decide | exact jp_01 _) ?_
    show jX m_X12_wish 100 0 0 10 [(0, .ref 125), (1, .int a1)] [.int 0] _ 0 0 _
    refine x_ifne (tgt := 20) rfl rfl (bn_f (by decide) ?_)
    refine x_aloadn (x := 125) rfl rfl ?_
    refine x_bipush (v := (-2)) rfl kb_m2 ?_
    refine x_inv (N := m_X12_told) (As := [.int (-2)]) (b := 125) (st := []) (d' := 99) (mc := 0) (ms := 0) (host := "") 12 rfl t_X12_told ⟨Or.inl q_12_197, i_X12_told.1, i_X12_told.2⟩ ⟨by decide, rfl⟩ (congrArg Prod.fst (sh_si (F.1 125 (12, 92) rfl rfl))) rfl (by decide) rfl rfl ⟨by decide, by decide⟩ (jC.of rfl k_X12_told rfl ?_)
    show jX m_X12_told 99 0 0 0 [(0, .ref 125), (1, .int (-2))] [] _ 0 0 _
    refine x_aloadn (x := 125) rfl rfl ?_
    refine x_iloadn (x := (-2)) rfl rfl ?_
    refine x_ifge (tgt := 9) rfl rfl (br_f (by decide) ?_)
    refine x_iloadn (x := (-2)) rfl rfl ?_
    refine x_goto (tgt := 10) rfl rfl ?_
    refine x_putI 12 1 rfl f_12_183 rfl (jfin_no TX12 RX12 92 rfl rfl) (congrArg Prod.fst (sh_si (F.1 125 (12, 92) rfl rfl))) rfl ?_
    refine x_iloadn (x := (-2)) rfl rfl ?_
    refine x_iret rfl rfl ?_
    show jX m_X12_wish 100 0 0 19 [(0, .ref 125), (1, .int a1)] [.int (-2)] _ 0 0 _
    refine x_iret rfl rfl ?_
    exact jqe (show sp_wish a1 = (-2) by unfold sp_wish; (repeat' split) <;> first | rfl | (exfalso; omega)) (hQ _ (jOl_si rfl (jOl_si rfl O)))
  ·
    refine x_aloadn (x := 125) rfl rfl ?_
    refine x_iloadn (x := a1) rfl rfl ?_
    refine x_iconst (v := 3) rfl ki_3 ?_
    refine x_idiv rfl (by decide) ?_
    have c2 := jdivn (x := a1) (y := 3) (n := 3) (by decide) (by decide) (by omega)
    refine x_inv (N := m_X12_isLine) (As := [.int (a1 / 3)]) (b := 125) (st := []) (d' := 98) (mc := 0) (ms := 0) (host := "") 12 rfl t_X12_isLine ⟨Or.inl q_12_293, i_X12_isLine.1, i_X12_isLine.2⟩ ⟨by decide, rfl⟩ (congrArg Prod.fst (sh_si (F.1 125 (12, 92) rfl rfl))) rfl (by decide) rfl rfl ⟨by decide, by decide⟩ (jC.of rfl k_X12_isLine rfl ?_)
    show jX m_X12_isLine 98 0 0 0 [(0, .ref 125), (1, .int (a1 / 3))] [] _ 0 0 _
    refine x_iloadn (x := a1 / 3) rfl rfl ?_
    refine x_i2l rfl ?_
    refine x_lconst (v := 0) rfl kl_0 ?_
    refine x_aloadn (x := 125) rfl rfl ?_
    refine x_getR (b := 126) 12 2 rfl f_12_8 rfl (congrArg Prod.fst (sh_si (F.1 125 (12, 92) rfl rfl))) (rv_si (F.2.1 16002 126 rfl rfl)) ?_
    refine x_iconst (v := 0) rfl ki_0 ?_
    refine y_iald (v := 0) (N := 50660) 0 rfl (sh_si (F.1 126 (100, 50660) rfl rfl)) (jinb_of (by decide)) (by decide) (iv_si rfl (F.2.2.2.1 126 rfl rfl 0).1) ?_
    refine y_i2l (v := 0) rfl (by decide) ?_
    refine x_lconst (v := 1) rfl kl_1 ?_
    refine y_lsub (v := (-1)) rfl (by decide) ?_
    refine x_inst (N := m_X12_in) (As := [.long ((a1 / 3).toInt64), .long 0, .long (-1)]) (st := []) (d' := 97) (mc := 0) (ms := 0) (host := "") rfl t_X12_in ⟨Or.inl q_12_188, s_X12_in⟩ rfl (by decide) rfl rfl ⟨by decide, by decide⟩ (c_X12_in (m := (a1 / 3).toInt) (a := 0) (b := (-1)) (jt_l _) (by decide) (by decide) ?_)
    show jX m_X12_isLine 98 0 0 15 [(0, .ref 125), (1, .int (a1 / 3))] [.int (jp (0 ≤ (a1 / 3).toInt ∧ (a1 / 3).toInt ≤ (-1)))] _ 0 0 _
    refine x_zret rfl rfl (by first | decide | exact jp_01 _) ?_
    show jX m_X12_isMention 99 0 0 11 [(0, .ref 125), (1, .int a1)] [.int (jp (0 ≤ (a1 / 3).toInt ∧ (a1 / 3).toInt ≤ (-1)))] _ 0 0 _
    refine x_ifeq (tgt := 34) rfl rfl (jpe ⟨fun c3 => ?_, fun c3 => ?_⟩)
    ·
      refine x_iconst (v := 0) rfl ki_0 ?_
      refine x_zret rfl rfl (by first | decide | exact jp_01 _) ?_
      show jX m_X12_wish 100 0 0 10 [(0, .ref 125), (1, .int a1)] [.int 0] _ 0 0 _
      refine x_ifne (tgt := 20) rfl rfl (bn_f (by decide) ?_)
      refine x_aloadn (x := 125) rfl rfl ?_
      refine x_bipush (v := (-2)) rfl kb_m2 ?_
      refine x_inv (N := m_X12_told) (As := [.int (-2)]) (b := 125) (st := []) (d' := 99) (mc := 0) (ms := 0) (host := "") 12 rfl t_X12_told ⟨Or.inl q_12_197, i_X12_told.1, i_X12_told.2⟩ ⟨by decide, rfl⟩ (congrArg Prod.fst (sh_si (F.1 125 (12, 92) rfl rfl))) rfl (by decide) rfl rfl ⟨by decide, by decide⟩ (jC.of rfl k_X12_told rfl ?_)
      show jX m_X12_told 99 0 0 0 [(0, .ref 125), (1, .int (-2))] [] _ 0 0 _
      refine x_aloadn (x := 125) rfl rfl ?_
      refine x_iloadn (x := (-2)) rfl rfl ?_
      refine x_ifge (tgt := 9) rfl rfl (br_f (by decide) ?_)
      refine x_iloadn (x := (-2)) rfl rfl ?_
      refine x_goto (tgt := 10) rfl rfl ?_
      refine x_putI 12 1 rfl f_12_183 rfl (jfin_no TX12 RX12 92 rfl rfl) (congrArg Prod.fst (sh_si (F.1 125 (12, 92) rfl rfl))) rfl ?_
      refine x_iloadn (x := (-2)) rfl rfl ?_
      refine x_iret rfl rfl ?_
      show jX m_X12_wish 100 0 0 19 [(0, .ref 125), (1, .int a1)] [.int (-2)] _ 0 0 _
      refine x_iret rfl rfl ?_
      exact jqe (show sp_wish a1 = (-2) by unfold sp_wish; (repeat' split) <;> first | rfl | (exfalso; omega)) (hQ _ (jOl_si rfl (jOl_si rfl O)))
    ·
      exfalso
      omega
def sp_clear : Int32 := 0
set_option maxRecDepth 100000 in
set_option maxHeartbeats 40000000 in
theorem px_clear {xs : Nat → Int32} {h : jH} {Q : Option Value → jH → Prop} (F : jFb 31 h) (O : jOl 7 xs h) (hQ : ∀ h', jFb 125 h' → jOl 7 xs h' → Q (some (.int (sp_clear))) h') : jC m_X11_clear 100 0 0 [.ref 31] h Q := by
  have FM := jFb_up 125 rfl F
  refine jC.of rfl k_X11_clear rfl ?_
  show jX m_X11_clear 100 0 0 0 [(0, .ref 31)] [] _ 0 0 _
  refine x_aloadn (x := 31) rfl rfl ?_
  refine x_getR (b := 87) 11 5 rfl f_11_50 rfl (congrArg Prod.fst (F.1 31 (11, 13) rfl rfl)) (F.2.1 3973 87 rfl rfl) ?_
  refine y_getI (v := 0) 3 3 rfl f_11_273 rfl (congrArg Prod.fst (F.1 87 (3, 14) rfl rfl)) (F.2.2.1 11139 0 rfl rfl) ?_
  refine x_istoren (ls' := [(1, .int 0), (0, .ref 31)]) rfl rfl rfl ?_
  refine x_aloadn (x := 31) rfl rfl ?_
  refine x_getR (b := 87) 11 5 rfl f_11_50 rfl (congrArg Prod.fst (F.1 31 (11, 13) rfl rfl)) (F.2.1 3973 87 rfl rfl) ?_
  refine x_inv (N := m_X3_empty) (As := []) (b := 87) (st := []) (d' := 99) (mc := 0) (ms := 0) (host := "") 3 rfl t_X3_empty ⟨Or.inl q_11_279, i_X3_empty.1, i_X3_empty.2⟩ ⟨by decide, rfl⟩ (congrArg Prod.fst (F.1 87 (3, 14) rfl rfl)) rfl (by decide) rfl rfl ⟨by decide, by decide⟩ (jC.of rfl k_X3_empty rfl ?_)
  show jX m_X3_empty 99 0 0 0 [(0, .ref 87)] [] _ 0 0 _
  refine x_aloadn (x := 87) rfl rfl ?_
  refine x_iconst (v := 0) rfl ki_0 ?_
  refine x_putI 3 3 rfl f_3_15 rfl (jfin_no TX3 RX3 14 rfl rfl) (congrArg Prod.fst (F.1 87 (3, 14) rfl rfl)) rfl ?_
  refine x_aloadn (x := 87) rfl rfl ?_
  refine x_iconst (v := 0) rfl ki_0 ?_
  refine x_putI 3 13 rfl f_3_46 rfl (jfin_no TX3 RX3 14 rfl rfl) (congrArg Prod.fst (sh_si (F.1 87 (3, 14) rfl rfl))) rfl ?_
  refine x_vret rfl rfl ?_
  show jX m_X11_clear 100 0 0 15 [(1, .int 0), (0, .ref 31)] [] _ 0 0 _
  refine x_iloadn (x := 0) rfl rfl ?_
  refine x_iret rfl rfl ?_
  exact jqe (show sp_clear = 0 by unfold sp_clear; (repeat' split) <;> first | rfl | (exfalso; omega)) (hQ _ (jFb_si rfl (jFb_si rfl FM)) (jOl_si rfl (jOl_si rfl O)))
set_option maxRecDepth 100000 in
set_option maxHeartbeats 40000000 in
theorem pm_clear {xs : Nat → Int32} {h : jH} {Q : Option Value → jH → Prop} (F : jFb 125 h) (O : jOl 7 xs h) (hQ : ∀ h', jOl 7 xs h' → Q (some (.int (sp_clear))) h') : jC m_X12_clear 100 0 0 [.ref 125] h Q := by
  refine jC.of rfl k_X12_clear rfl ?_
  show jX m_X12_clear 100 0 0 0 [(0, .ref 125)] [] _ 0 0 _
  refine x_aloadn (x := 125) rfl rfl ?_
  refine x_iconst (v := 0) rfl ki_0 ?_
  refine x_putI 12 0 rfl f_12_180 rfl (jfin_no TX12 RX12 92 rfl rfl) (congrArg Prod.fst (F.1 125 (12, 92) rfl rfl)) rfl ?_
  refine x_aloadn (x := 125) rfl rfl ?_
  refine y_getI (v := 0) 12 36 rfl f_12_204 rfl (congrArg Prod.fst (sh_si (F.1 125 (12, 92) rfl rfl))) (iv_si rfl (F.2.2.1 16036 0 rfl rfl)) ?_
  refine x_istoren (ls' := [(1, .int 0), (0, .ref 125)]) rfl rfl rfl ?_
  refine x_aloadn (x := 125) rfl rfl ?_
  refine x_iconst (v := 0) rfl ki_0 ?_
  refine x_putI 12 36 rfl f_12_204 rfl (jfin_no TX12 RX12 92 rfl rfl) (congrArg Prod.fst (sh_si (F.1 125 (12, 92) rfl rfl))) rfl ?_
  refine x_iloadn (x := 0) rfl rfl ?_
  refine x_iret rfl rfl ?_
  exact jqe (show sp_clear = 0 by unfold sp_clear; (repeat' split) <;> first | rfl | (exfalso; omega)) (hQ _ (jOl_si rfl (jOl_si rfl O)))
def sp_best (a1 a2 : Int32) : Int32 := if a1.toInt < 0 ∨ 3 < a1.toInt ∨ (a1.toInt = 3 ∧ (a2.toInt < 0 ∨ 1000 < a2.toInt)) then (-1) else (if a1.toInt = 3 then 1 else 0)
set_option maxRecDepth 100000 in
set_option maxHeartbeats 40000000 in
theorem px_best (a1 a2 : Int32) {xs : Nat → Int32} {h : jH} {Q : Option Value → jH → Prop} (F : jFb 31 h) (O : jOl 7 xs h) (hQ : ∀ h', jFb 125 h' → jOl 7 xs h' → Q (some (.int (sp_best a1 a2))) h') : jC m_X11_best 100 0 0 [.ref 31, .int a1, .int a2] h Q := by
  have FM := jFb_up 125 rfl F
  refine jC.of rfl k_X11_best rfl ?_
  show jX m_X11_best 100 0 0 0 [(0, .ref 31), (1, .int a1), (2, .int a2)] [] _ 0 0 _
  refine x_iloadn (x := a1) rfl rfl ?_
  refine x_iflt (tgt := 25) rfl rfl (ti_lt (show (a1 : Int32).toInt = a1.toInt from rfl) (show (0 : Int32).toInt = 0 by decide) ⟨fun c1 => ?_, fun c1 => ?_⟩)
  ·
    refine x_iconst (v := (-1)) rfl ki_m1 ?_
    refine x_iret rfl rfl ?_
    exact jqe (show sp_best a1 a2 = (-1) by unfold sp_best; (repeat' split) <;> first | rfl | (exfalso; omega)) (hQ _ FM O)
  ·
    refine x_iloadn (x := a1) rfl rfl ?_
    refine x_iconst (v := 3) rfl ki_3 ?_
    refine x_icgt (tgt := 25) rfl rfl (ti_gt (show (a1 : Int32).toInt = a1.toInt from rfl) (show (3 : Int32).toInt = 3 by decide) ⟨fun c2 => ?_, fun c2 => ?_⟩)
    ·
      refine x_iconst (v := (-1)) rfl ki_m1 ?_
      refine x_iret rfl rfl ?_
      exact jqe (show sp_best a1 a2 = (-1) by unfold sp_best; (repeat' split) <;> first | rfl | (exfalso; omega)) (hQ _ FM O)
    ·
      refine x_iloadn (x := a1) rfl rfl ?_
      refine x_iconst (v := 3) rfl ki_3 ?_
      refine x_icne (tgt := 27) rfl rfl (ti_ne (show (a1 : Int32).toInt = a1.toInt from rfl) (show (3 : Int32).toInt = 3 by decide) ⟨fun c3 => ?_, fun c3 => ?_⟩)
      ·
        refine x_aloadn (x := 31) rfl rfl ?_
        refine x_getR (b := 78) 11 4 rfl f_11_41 rfl (congrArg Prod.fst (F.1 31 (11, 13) rfl rfl)) (F.2.1 3972 78 rfl rfl) ?_
        refine x_ldc (v := 146399) rfl z_11_233 ?_
        refine x_inv (N := m_X7_asKnown) (As := [.int 146399]) (b := 78) (st := []) (d' := 99) (mc := 0) (ms := 0) (host := "") 7 rfl t_X7_asKnown ⟨Or.inl q_11_240, i_X7_asKnown.1, i_X7_asKnown.2⟩ ⟨by decide, rfl⟩ (congrArg Prod.fst (F.1 78 (7, 16) rfl rfl)) rfl (by decide) rfl rfl ⟨by decide, by decide⟩ (jC.of rfl k_X7_asKnown rfl ?_)
        show jX m_X7_asKnown 99 0 0 0 [(0, .ref 78), (1, .int 146399)] [] _ 0 0 _
        refine x_aloadn (x := 78) rfl rfl ?_
        refine x_getR (b := 86) 7 15 rfl f_7_52 rfl (congrArg Prod.fst (F.1 78 (7, 16) rfl rfl)) (F.2.1 9999 86 rfl rfl) ?_
        refine x_iloadn (x := 146399) rfl rfl ?_
        refine x_iconst (v := 0) rfl ki_0 ?_
        refine x_aloadn (x := 78) rfl rfl ?_
        refine x_getR (b := 32) 7 0 rfl f_7_55 rfl (congrArg Prod.fst (F.1 78 (7, 16) rfl rfl)) (F.2.1 9984 32 rfl rfl) ?_
        refine y_getI (v := 1) 1 19 rfl f_7_140 rfl (congrArg Prod.fst (F.1 32 (1, 20) rfl rfl)) (F.2.2.1 4115 1 rfl rfl) ?_
        refine x_inst (N := m_X11_isFresh) (As := [.ref 86, .int 146399, .int 0, .int 1]) (st := []) (d' := 98) (mc := 0) (ms := 0) (host := "ParishChest") rfl t_X11_isFresh ⟨Or.inr q_7_143, s_X11_isFresh⟩ rfl (by decide) rfl rfl ⟨by decide, by decide⟩ (jC.of rfl k_X11_isFresh rfl ?_)
        show jX m_X11_isFresh 98 0 0 0 [(0, .ref 86), (1, .int 146399), (2, .int 0), (3, .int 1)] [] _ 0 0 _
        refine x_aloadn (x := 86) rfl rfl ?_
        refine y_alen (N := 3) (v := 3) rfl (F.1 86 (100, 3) rfl rfl) (by decide) (by decide) ?_
        refine x_iconst (v := 3) rfl ki_3 ?_
        refine x_icge (tgt := 8) rfl rfl (br_t (by decide) ?_)
        refine x_aloadn (x := 86) rfl rfl ?_
        refine x_iconst (v := 0) rfl ki_0 ?_
        refine y_iald (v := 0) (N := 3) 0 rfl (F.1 86 (100, 3) rfl rfl) (jinb_of (by decide)) (by decide) (F.2.2.2.1 86 rfl rfl 0).1 ?_
        refine x_iloadn (x := 146399) rfl rfl ?_
        refine x_icne (tgt := 33) rfl rfl (bn_t (by decide) ?_)
        refine x_iconst (v := 0) rfl ki_0 ?_
        refine x_istore (ls' := [(4, .int 0), (0, .ref 86), (1, .int 146399), (2, .int 0), (3, .int 1)]) rfl rfl rfl ?_
        refine x_aloadn (x := 86) rfl rfl ?_
        refine x_iconst (v := 0) rfl ki_0 ?_
        refine x_iloadn (x := 146399) rfl rfl ?_
        refine y_iast (N := 3) 0 rfl (F.1 86 (100, 3) rfl rfl) rfl (jinb_of (by decide)) (by decide) ?_
        refine x_aloadn (x := 86) rfl rfl ?_
        refine x_iconst (v := 1) rfl ki_1 ?_
        refine x_iloadn (x := 0) rfl rfl ?_
        refine y_iast (N := 3) 1 rfl (sh_si (F.1 86 (100, 3) rfl rfl)) rfl (jinb_of (by decide)) (by decide) ?_
        refine x_aloadn (x := 86) rfl rfl ?_
        refine x_iconst (v := 2) rfl ki_2 ?_
        refine x_iloadn (x := 1) rfl rfl ?_
        refine y_iast (N := 3) 2 rfl (sh_si (sh_si (F.1 86 (100, 3) rfl rfl))) rfl (jinb_of (by decide)) (by decide) ?_
        refine x_iload (x := 0) rfl rfl ?_
        refine x_zret rfl rfl (by first | decide | exact jp_01 _) ?_
        show jX m_X7_asKnown 99 0 0 16 [(0, .ref 78), (1, .int 146399)] [.int 0] _ 0 0 _
        refine x_ifeq (tgt := 20) rfl rfl (br_t (by decide) ?_)
        refine x_iconst (v := 0) rfl ki_0 ?_
        refine x_istoren (ls' := [(2, .int 0), (0, .ref 78), (1, .int 146399)]) rfl rfl rfl ?_
        refine x_iloadn (x := 0) rfl rfl ?_
        refine x_aloadn (x := 78) rfl rfl ?_
        refine x_getR (b := 32) 7 0 rfl f_7_55 rfl (congrArg Prod.fst (sh_si (sh_si (sh_si (F.1 78 (7, 16) rfl rfl))))) (rv_si (rv_si (rv_si (F.2.1 9984 32 rfl rfl)))) ?_
        refine x_getR (b := 33) 1 0 rfl f_7_63 rfl (congrArg Prod.fst (sh_si (sh_si (sh_si (F.1 32 (1, 20) rfl rfl))))) (rv_si (rv_si (rv_si (F.2.1 4096 33 rfl rfl)))) ?_
        refine y_getI (v := 0) 8 3 rfl f_7_85 rfl (congrArg Prod.fst (sh_si (sh_si (sh_si (F.1 33 (8, 4) rfl rfl))))) (iv_si rfl (iv_si rfl (iv_si rfl (F.2.2.1 4227 0 rfl rfl)))) ?_
        refine x_iconst (v := 3) rfl ki_3 ?_
        refine y_imul (v := 0) rfl (by decide) ?_
        refine x_icge (tgt := 96) rfl rfl (br_t (by decide) ?_)
        refine x_aloadn (x := 78) rfl rfl ?_
        refine x_iconst (v := 0) rfl ki_0 ?_
        refine x_putI 7 13 rfl f_7_46 rfl (jfin_no TX7 RX7 16 rfl rfl) (congrArg Prod.fst (sh_si (sh_si (sh_si (F.1 78 (7, 16) rfl rfl))))) rfl ?_
        refine x_iconst (v := 0) rfl ki_0 ?_
        refine x_istoren (ls' := [(2, .int 0), (0, .ref 78), (1, .int 146399)]) rfl rfl rfl ?_
        refine x_iloadn (x := 0) rfl rfl ?_
        refine x_aloadn (x := 78) rfl rfl ?_
        refine x_getR (b := 32) 7 0 rfl f_7_55 rfl (congrArg Prod.fst (sh_si (sh_si (sh_si (sh_si (F.1 78 (7, 16) rfl rfl)))))) (rv_si (rv_si (rv_si (rv_si (F.2.1 9984 32 rfl rfl))))) ?_
        refine x_getR (b := 39) 1 3 rfl f_7_150 rfl (congrArg Prod.fst (sh_si (sh_si (sh_si (sh_si (F.1 32 (1, 20) rfl rfl)))))) (rv_si (rv_si (rv_si (rv_si (F.2.1 4099 39 rfl rfl))))) ?_
        refine y_getI (v := 0) 8 3 rfl f_7_85 rfl (congrArg Prod.fst (sh_si (sh_si (sh_si (sh_si (F.1 39 (8, 4) rfl rfl)))))) (iv_si rfl (iv_si rfl (iv_si rfl (iv_si rfl (F.2.2.1 4995 0 rfl rfl))))) ?_
        refine x_icge (tgt := 175) rfl rfl (br_t (by decide) ?_)
        refine x_vret rfl rfl ?_
        show jX m_X11_best 100 0 0 36 [(0, .ref 31), (1, .int a1), (2, .int a2)] [] _ 0 0 _
        refine x_aloadn (x := 31) rfl rfl ?_
        refine x_getR (b := 87) 11 5 rfl f_11_50 rfl (congrArg Prod.fst (sh_si (sh_si (sh_si (sh_si (F.1 31 (11, 13) rfl rfl)))))) (rv_si (rv_si (rv_si (rv_si (F.2.1 3973 87 rfl rfl))))) ?_
        refine x_inv (N := m_X3_settle) (As := []) (b := 87) (st := []) (d' := 99) (mc := 0) (ms := 0) (host := "") 3 rfl t_X3_settle ⟨Or.inl q_11_282, i_X3_settle.1, i_X3_settle.2⟩ ⟨by decide, rfl⟩ (congrArg Prod.fst (sh_si (sh_si (sh_si (sh_si (F.1 87 (3, 14) rfl rfl)))))) rfl (by decide) rfl rfl ⟨by decide, by decide⟩ (jC.of rfl k_X3_settle rfl ?_)
        show jX m_X3_settle 99 0 0 0 [(0, .ref 87)] [] _ 0 0 _
        refine x_aloadn (x := 87) rfl rfl ?_
        refine y_getI (v := 0) 3 13 rfl f_3_46 rfl (congrArg Prod.fst (sh_si (sh_si (sh_si (sh_si (F.1 87 (3, 14) rfl rfl)))))) (iv_si rfl (iv_si rfl (iv_si rfl (iv_si rfl (F.2.2.1 11149 0 rfl rfl))))) ?_
        refine x_aloadn (x := 87) rfl rfl ?_
        refine x_getR (b := 32) 3 0 rfl f_3_49 rfl (congrArg Prod.fst (sh_si (sh_si (sh_si (sh_si (F.1 87 (3, 14) rfl rfl)))))) (rv_si (rv_si (rv_si (rv_si (F.2.1 11136 32 rfl rfl))))) ?_
        refine y_getI (v := 1) 1 19 rfl f_3_72 rfl (congrArg Prod.fst (sh_si (sh_si (sh_si (sh_si (F.1 32 (1, 20) rfl rfl)))))) (iv_si rfl (iv_si rfl (iv_si rfl (iv_si rfl (F.2.2.1 4115 1 rfl rfl))))) ?_
        refine x_icne (tgt := 15) rfl rfl (bn_t (by decide) ?_)
        refine x_aloadn (x := 87) rfl rfl ?_
        refine x_aloadn (x := 87) rfl rfl ?_
        refine x_getR (b := 32) 3 0 rfl f_3_49 rfl (congrArg Prod.fst (sh_si (sh_si (sh_si (sh_si (F.1 87 (3, 14) rfl rfl)))))) (rv_si (rv_si (rv_si (rv_si (F.2.1 11136 32 rfl rfl))))) ?_
        refine y_getI (v := 1) 1 19 rfl f_3_72 rfl (congrArg Prod.fst (sh_si (sh_si (sh_si (sh_si (F.1 32 (1, 20) rfl rfl)))))) (iv_si rfl (iv_si rfl (iv_si rfl (iv_si rfl (F.2.2.1 4115 1 rfl rfl))))) ?_
        refine x_putI 3 13 rfl f_3_46 rfl (jfin_no TX3 RX3 14 rfl rfl) (congrArg Prod.fst (sh_si (sh_si (sh_si (sh_si (F.1 87 (3, 14) rfl rfl)))))) rfl ?_
        refine x_aloadn (x := 87) rfl rfl ?_
        refine x_inv (N := m_X3_weighPairs) (As := []) (b := 87) (st := []) (d' := 98) (mc := 0) (ms := 0) (host := "") 3 rfl t_X3_weighPairs ⟨Or.inl q_3_77, i_X3_weighPairs.1, i_X3_weighPairs.2⟩ ⟨by decide, rfl⟩ (congrArg Prod.fst (sh_si (sh_si (sh_si (sh_si (sh_si (F.1 87 (3, 14) rfl rfl))))))) rfl (by decide) rfl rfl ⟨by decide, by decide⟩ (jC.of rfl k_X3_weighPairs rfl ?_)
        show jX m_X3_weighPairs 98 0 0 0 [(0, .ref 87)] [] _ 0 0 _
        refine x_aloadn (x := 87) rfl rfl ?_
        refine x_iconst (v := 0) rfl ki_0 ?_
        refine x_putI 3 12 rfl f_3_43 rfl (jfin_no TX3 RX3 14 rfl rfl) (congrArg Prod.fst (sh_si (sh_si (sh_si (sh_si (sh_si (F.1 87 (3, 14) rfl rfl))))))) rfl ?_
        refine x_iconst (v := 0) rfl ki_0 ?_
        refine x_istoren (ls' := [(1, .int 0), (0, .ref 87)]) rfl rfl rfl ?_
        refine x_iloadn (x := 0) rfl rfl ?_
        refine x_aloadn (x := 87) rfl rfl ?_
        refine y_getI (v := 0) 3 3 rfl f_3_15 rfl (congrArg Prod.fst (sh_si (sh_si (sh_si (sh_si (sh_si (sh_si (F.1 87 (3, 14) rfl rfl)))))))) (iv_si rfl (iv_si rfl (iv_si rfl (iv_si rfl (iv_si rfl (iv_si rfl (F.2.2.1 11139 0 rfl rfl))))))) ?_
        refine x_icge (tgt := 123) rfl rfl (br_t (by decide) ?_)
        refine x_vret rfl rfl ?_
        show jX m_X3_settle 99 0 0 30 [(0, .ref 87)] [] _ 0 0 _
        refine x_iconst (v := 0) rfl ki_0 ?_
        refine x_istoren (ls' := [(1, .int 0), (0, .ref 87)]) rfl rfl rfl ?_
        refine x_iloadn (x := 0) rfl rfl ?_
        refine x_aloadn (x := 87) rfl rfl ?_
        refine y_getI (v := 0) 3 12 rfl f_3_43 rfl (congrArg Prod.fst (sh_si (sh_si (sh_si (sh_si (sh_si (sh_si (F.1 87 (3, 14) rfl rfl)))))))) iv_eq ?_
        refine x_icgt (tgt := 62) rfl rfl (br_f (by decide) ?_)
        refine x_iloadn (x := 0) rfl rfl ?_
        refine x_aloadn (x := 87) rfl rfl ?_
        refine x_getR (b := 94) 3 9 rfl f_3_34 rfl (congrArg Prod.fst (sh_si (sh_si (sh_si (sh_si (sh_si (sh_si (F.1 87 (3, 14) rfl rfl)))))))) (rv_si (rv_si (rv_si (rv_si (rv_si (rv_si (F.2.1 11145 94 rfl rfl))))))) ?_
        refine y_alen (N := 14401) (v := 14401) rfl (sh_si (sh_si (sh_si (sh_si (sh_si (sh_si (F.1 94 (100, 14401) rfl rfl))))))) (by decide) (by decide) ?_
        refine x_icge (tgt := 62) rfl rfl (br_f (by decide) ?_)
        refine x_aloadn (x := 87) rfl rfl ?_
        refine x_getR (b := 94) 3 9 rfl f_3_34 rfl (congrArg Prod.fst (sh_si (sh_si (sh_si (sh_si (sh_si (sh_si (F.1 87 (3, 14) rfl rfl)))))))) (rv_si (rv_si (rv_si (rv_si (rv_si (rv_si (F.2.1 11145 94 rfl rfl))))))) ?_
        refine x_iloadn (x := 0) rfl rfl ?_
        refine x_iconst (v := 0) rfl ki_0 ?_
        refine y_iast (N := 14401) 0 rfl (sh_si (sh_si (sh_si (sh_si (sh_si (sh_si (F.1 94 (100, 14401) rfl rfl))))))) rfl (jinb_of (by decide)) (by decide) ?_
        refine x_iinc (x := 0) (v := 1) (ls' := [(1, .int 1), (0, .ref 87)]) rfl rfl (by decide) rfl rfl ?_
        refine x_goto (tgt := 32) rfl rfl ?_
        refine x_iloadn (x := 1) rfl rfl ?_
        refine x_aloadn (x := 87) rfl rfl ?_
        refine y_getI (v := 0) 3 12 rfl f_3_43 rfl (congrArg Prod.fst (sh_si (sh_si (sh_si (sh_si (sh_si (sh_si (sh_si (F.1 87 (3, 14) rfl rfl))))))))) (iv_si rfl iv_eq) ?_
        refine x_icgt (tgt := 62) rfl rfl (br_t (by decide) ?_)
        refine x_aloadn (x := 87) rfl rfl ?_
        refine x_iconst (v := (-1)) rfl ki_m1 ?_
        refine x_putI 3 10 rfl f_3_37 rfl (jfin_no TX3 RX3 14 rfl rfl) (congrArg Prod.fst (sh_si (sh_si (sh_si (sh_si (sh_si (sh_si (sh_si (F.1 87 (3, 14) rfl rfl))))))))) rfl ?_
        refine x_aloadn (x := 87) rfl rfl ?_
        refine x_iconst (v := 0) rfl ki_0 ?_
        refine x_putI 3 11 rfl f_3_40 rfl (jfin_no TX3 RX3 14 rfl rfl) (congrArg Prod.fst (sh_si (sh_si (sh_si (sh_si (sh_si (sh_si (sh_si (sh_si (F.1 87 (3, 14) rfl rfl)))))))))) rfl ?_
        refine x_aloadn (x := 87) rfl rfl ?_
        refine x_iconst (v := 0) rfl ki_0 ?_
        refine x_iconst (v := 0) rfl ki_0 ?_
        refine x_iconst (v := 0) rfl ki_0 ?_
        refine x_inv (N := m_X3_place) (As := [.int 0, .int 0, .int 0]) (b := 87) (st := []) (d' := 98) (mc := 0) (ms := 0) (host := "") 3 rfl t_X3_place ⟨Or.inl q_3_80, i_X3_place.1, i_X3_place.2⟩ ⟨by decide, rfl⟩ (congrArg Prod.fst (sh_si (sh_si (sh_si (sh_si (sh_si (sh_si (sh_si (sh_si (sh_si (F.1 87 (3, 14) rfl rfl))))))))))) rfl (by decide) rfl rfl ⟨by decide, by decide⟩ (jC.of rfl k_X3_place rfl ?_)
        show jX m_X3_place 98 0 0 0 [(0, .ref 87), (1, .int 0), (2, .int 0), (3, .int 0)] [] _ 0 0 _
        refine x_iloadn (x := 0) rfl rfl ?_
        refine x_iflt (tgt := 18) rfl rfl (br_f (by decide) ?_)
        refine x_iloadn (x := 0) rfl rfl ?_
        refine x_aloadn (x := 87) rfl rfl ?_
        refine y_getI (v := 0) 3 3 rfl f_3_15 rfl (congrArg Prod.fst (sh_si (sh_si (sh_si (sh_si (sh_si (sh_si (sh_si (sh_si (sh_si (F.1 87 (3, 14) rfl rfl))))))))))) (iv_si rfl (iv_si rfl (iv_si rfl (iv_si rfl (iv_si rfl (iv_si rfl (iv_si rfl (iv_si rfl (iv_si rfl (F.2.2.1 11139 0 rfl rfl)))))))))) ?_
        refine x_icge (tgt := 18) rfl rfl (br_t (by decide) ?_)
        refine x_aloadn (x := 87) rfl rfl ?_
        refine x_iloadn (x := 0) rfl rfl ?_
        refine x_iloadn (x := 0) rfl rfl ?_
        refine x_inv (N := m_X3_note) (As := [.int 0, .int 0]) (b := 87) (st := []) (d' := 97) (mc := 0) (ms := 0) (host := "") 3 rfl t_X3_note ⟨Or.inl q_3_93, i_X3_note.1, i_X3_note.2⟩ ⟨by decide, rfl⟩ (congrArg Prod.fst (sh_si (sh_si (sh_si (sh_si (sh_si (sh_si (sh_si (sh_si (sh_si (F.1 87 (3, 14) rfl rfl))))))))))) rfl (by decide) rfl rfl ⟨by decide, by decide⟩ (jC.of rfl k_X3_note rfl ?_)
        show jX m_X3_note 97 0 0 0 [(0, .ref 87), (1, .int 0), (2, .int 0)] [] _ 0 0 _
        refine x_iloadn (x := 0) rfl rfl ?_
        refine x_iflt (tgt := 23) rfl rfl (br_f (by decide) ?_)
        refine x_iloadn (x := 0) rfl rfl ?_
        refine x_aloadn (x := 87) rfl rfl ?_
        refine x_getR (b := 94) 3 9 rfl f_3_34 rfl (congrArg Prod.fst (sh_si (sh_si (sh_si (sh_si (sh_si (sh_si (sh_si (sh_si (sh_si (F.1 87 (3, 14) rfl rfl))))))))))) (rv_si (rv_si (rv_si (rv_si (rv_si (rv_si (rv_si (rv_si (rv_si (F.2.1 11145 94 rfl rfl)))))))))) ?_
        refine y_alen (N := 14401) (v := 14401) rfl (sh_si (sh_si (sh_si (sh_si (sh_si (sh_si (sh_si (sh_si (sh_si (F.1 94 (100, 14401) rfl rfl)))))))))) (by decide) (by decide) ?_
        refine x_icge (tgt := 23) rfl rfl (br_f (by decide) ?_)
        refine x_aloadn (x := 87) rfl rfl ?_
        refine x_getR (b := 94) 3 9 rfl f_3_34 rfl (congrArg Prod.fst (sh_si (sh_si (sh_si (sh_si (sh_si (sh_si (sh_si (sh_si (sh_si (F.1 87 (3, 14) rfl rfl))))))))))) (rv_si (rv_si (rv_si (rv_si (rv_si (rv_si (rv_si (rv_si (rv_si (F.2.1 11145 94 rfl rfl)))))))))) ?_
        refine x_iloadn (x := 0) rfl rfl ?_
        refine x_dup2 rfl rfl rfl ?_
        refine y_iald (v := 0) (N := 14401) 0 rfl (sh_si (sh_si (sh_si (sh_si (sh_si (sh_si (sh_si (sh_si (sh_si (F.1 94 (100, 14401) rfl rfl)))))))))) (jinb_of (by decide)) (by decide) (iv_si rfl (iv_si rfl iv_eq)) ?_
        refine x_iconst (v := 1) rfl ki_1 ?_
        refine y_iadd (v := 1) rfl (by decide) ?_
        refine y_iast (N := 14401) 0 rfl (sh_si (sh_si (sh_si (sh_si (sh_si (sh_si (sh_si (sh_si (sh_si (F.1 94 (100, 14401) rfl rfl)))))))))) rfl (jinb_of (by decide)) (by decide) ?_
        refine x_iloadn (x := 0) rfl rfl ?_
        refine x_aloadn (x := 87) rfl rfl ?_
        refine y_getI (v := (-1)) 3 10 rfl f_3_37 rfl (congrArg Prod.fst (sh_si (sh_si (sh_si (sh_si (sh_si (sh_si (sh_si (sh_si (sh_si (sh_si (F.1 87 (3, 14) rfl rfl)))))))))))) (iv_si rfl (iv_si rfl iv_eq)) ?_
        refine x_icgt (tgt := 47) rfl rfl (br_t (by decide) ?_)
        refine x_aloadn (x := 87) rfl rfl ?_
        refine x_iloadn (x := 0) rfl rfl ?_
        refine x_putI 3 10 rfl f_3_37 rfl (jfin_no TX3 RX3 14 rfl rfl) (congrArg Prod.fst (sh_si (sh_si (sh_si (sh_si (sh_si (sh_si (sh_si (sh_si (sh_si (sh_si (F.1 87 (3, 14) rfl rfl)))))))))))) rfl ?_
        refine x_aloadn (x := 87) rfl rfl ?_
        refine x_iloadn (x := 0) rfl rfl ?_
        refine x_putI 3 11 rfl f_3_40 rfl (jfin_no TX3 RX3 14 rfl rfl) (congrArg Prod.fst (sh_si (sh_si (sh_si (sh_si (sh_si (sh_si (sh_si (sh_si (sh_si (sh_si (sh_si (F.1 87 (3, 14) rfl rfl))))))))))))) rfl ?_
        refine x_aloadn (x := 87) rfl rfl ?_
        refine x_getR (b := 91) 3 6 rfl f_3_25 rfl (congrArg Prod.fst (sh_si (sh_si (sh_si (sh_si (sh_si (sh_si (sh_si (sh_si (sh_si (sh_si (sh_si (sh_si (F.1 87 (3, 14) rfl rfl)))))))))))))) (rv_si (rv_si (rv_si (rv_si (rv_si (rv_si (rv_si (rv_si (rv_si (rv_si (rv_si (rv_si (F.2.1 11142 91 rfl rfl))))))))))))) ?_
        refine x_iconst (v := 0) rfl ki_0 ?_
        refine x_aloadn (x := 87) rfl rfl ?_
        refine x_getR (b := 92) 3 7 rfl f_3_28 rfl (congrArg Prod.fst (sh_si (sh_si (sh_si (sh_si (sh_si (sh_si (sh_si (sh_si (sh_si (sh_si (sh_si (sh_si (F.1 87 (3, 14) rfl rfl)))))))))))))) (rv_si (rv_si (rv_si (rv_si (rv_si (rv_si (rv_si (rv_si (rv_si (rv_si (rv_si (rv_si (F.2.1 11143 92 rfl rfl))))))))))))) ?_
        refine x_iconst (v := 0) rfl ki_0 ?_
        refine x_bipush (v := 9) rfl kb_9 ?_
        refine y_cpi (N1 := 9) (N2 := 9) 0 0 9 rfl ⟨q_3_100, jcp_w⟩ (by decide) rfl rfl rfl (sh_si (sh_si (sh_si (sh_si (sh_si (sh_si (sh_si (sh_si (sh_si (sh_si (sh_si (sh_si (F.1 91 (100, 9) rfl rfl))))))))))))) (sh_si (sh_si (sh_si (sh_si (sh_si (sh_si (sh_si (sh_si (sh_si (sh_si (sh_si (sh_si (F.1 92 (100, 9) rfl rfl))))))))))))) (by decide) (by decide) (by decide) (by decide) (by decide) (by decide) (by decide) (by decide) ?_
        refine x_vret rfl rfl ?_
        show jX m_X3_place 98 0 0 24 [(0, .ref 87), (1, .int 0), (2, .int 0), (3, .int 0)] [] _ 0 0 _
        refine x_vret rfl rfl ?_
        show jX m_X3_settle 99 0 0 79 [(1, .int 1), (0, .ref 87)] [] _ 0 0 _
        refine x_vret rfl rfl ?_
        show jX m_X11_best 100 0 0 43 [(0, .ref 31), (1, .int a1), (2, .int a2)] [] _ 0 0 _
        refine x_iloadn (x := a1) rfl rfl ?_
        by_cases c4 : a1.toInt = 0
        ·
          refine x_tableIn (tgt := 72) 0 rfl c4 (by decide) (by decide) rfl rfl ?_
          refine x_aloadn (x := 31) rfl rfl ?_
          refine x_getR (b := 87) 11 5 rfl f_11_50 rfl (congrArg Prod.fst (sh_ci (sh_si (sh_si (sh_si (sh_si (sh_si (sh_si (sh_si (sh_si (sh_si (sh_si (sh_si (sh_si (F.1 31 (11, 13) rfl rfl))))))))))))))) (rv_ci (rv_si (rv_si (rv_si (rv_si (rv_si (rv_si (rv_si (rv_si (rv_si (rv_si (rv_si (rv_si (F.2.1 3973 87 rfl rfl)))))))))))))) ?_
          refine y_getI (v := 0) 3 10 rfl f_11_285 rfl (congrArg Prod.fst (sh_ci (sh_si (sh_si (sh_si (sh_si (sh_si (sh_si (sh_si (sh_si (sh_si (sh_si (sh_si (sh_si (F.1 87 (3, 14) rfl rfl))))))))))))))) (iv_ci rfl (iv_si rfl iv_eq)) ?_
          refine x_iret rfl rfl ?_
          exact jqe (show sp_best a1 a2 = 0 by unfold sp_best; (repeat' split) <;> first | rfl | (exfalso; omega)) (hQ _ (jFb_ci rfl (jFb_si rfl (jFb_si rfl (jFb_si rfl (jFb_si rfl (jFb_si rfl (jFb_si rfl (jFb_si rfl (jFb_si rfl (jFb_si rfl (jFb_si rfl (jFb_si rfl (jFb_si rfl FM))))))))))))) (jOl_ci rfl (jOl_si rfl (jOl_si rfl (jOl_si rfl (jOl_si rfl (jOl_si rfl (jOl_si rfl (jOl_si rfl (jOl_si rfl (jOl_si rfl (jOl_si rfl (jOl_si rfl (jOl_si rfl O))))))))))))))
        by_cases c5 : a1.toInt = 1
        ·
          refine x_tableIn (tgt := 80) 1 rfl c5 (by decide) (by decide) rfl rfl ?_
          refine x_aloadn (x := 31) rfl rfl ?_
          refine x_getR (b := 87) 11 5 rfl f_11_50 rfl (congrArg Prod.fst (sh_ci (sh_si (sh_si (sh_si (sh_si (sh_si (sh_si (sh_si (sh_si (sh_si (sh_si (sh_si (sh_si (F.1 31 (11, 13) rfl rfl))))))))))))))) (rv_ci (rv_si (rv_si (rv_si (rv_si (rv_si (rv_si (rv_si (rv_si (rv_si (rv_si (rv_si (rv_si (F.2.1 3973 87 rfl rfl)))))))))))))) ?_
          refine y_getI (v := 0) 3 11 rfl f_11_288 rfl (congrArg Prod.fst (sh_ci (sh_si (sh_si (sh_si (sh_si (sh_si (sh_si (sh_si (sh_si (sh_si (sh_si (sh_si (sh_si (F.1 87 (3, 14) rfl rfl))))))))))))))) (iv_ci rfl iv_eq) ?_
          refine x_iret rfl rfl ?_
          exact jqe (show sp_best a1 a2 = 0 by unfold sp_best; (repeat' split) <;> first | rfl | (exfalso; omega)) (hQ _ (jFb_ci rfl (jFb_si rfl (jFb_si rfl (jFb_si rfl (jFb_si rfl (jFb_si rfl (jFb_si rfl (jFb_si rfl (jFb_si rfl (jFb_si rfl (jFb_si rfl (jFb_si rfl (jFb_si rfl FM))))))))))))) (jOl_ci rfl (jOl_si rfl (jOl_si rfl (jOl_si rfl (jOl_si rfl (jOl_si rfl (jOl_si rfl (jOl_si rfl (jOl_si rfl (jOl_si rfl (jOl_si rfl (jOl_si rfl (jOl_si rfl O))))))))))))))
        by_cases c6 : a1.toInt = 2
        ·
          refine x_tableIn (tgt := 88) 2 rfl c6 (by decide) (by decide) rfl rfl ?_
          refine x_aloadn (x := 31) rfl rfl ?_
          refine x_getR (b := 87) 11 5 rfl f_11_50 rfl (congrArg Prod.fst (sh_ci (sh_si (sh_si (sh_si (sh_si (sh_si (sh_si (sh_si (sh_si (sh_si (sh_si (sh_si (sh_si (F.1 31 (11, 13) rfl rfl))))))))))))))) (rv_ci (rv_si (rv_si (rv_si (rv_si (rv_si (rv_si (rv_si (rv_si (rv_si (rv_si (rv_si (rv_si (F.2.1 3973 87 rfl rfl)))))))))))))) ?_
          refine y_getI (v := 0) 3 12 rfl f_11_291 rfl (congrArg Prod.fst (sh_ci (sh_si (sh_si (sh_si (sh_si (sh_si (sh_si (sh_si (sh_si (sh_si (sh_si (sh_si (sh_si (F.1 87 (3, 14) rfl rfl))))))))))))))) (iv_ci rfl (iv_si rfl (iv_si rfl (iv_si rfl (iv_si rfl (iv_si rfl (iv_si rfl iv_eq))))))) ?_
          refine x_iret rfl rfl ?_
          exact jqe (show sp_best a1 a2 = 0 by unfold sp_best; (repeat' split) <;> first | rfl | (exfalso; omega)) (hQ _ (jFb_ci rfl (jFb_si rfl (jFb_si rfl (jFb_si rfl (jFb_si rfl (jFb_si rfl (jFb_si rfl (jFb_si rfl (jFb_si rfl (jFb_si rfl (jFb_si rfl (jFb_si rfl (jFb_si rfl FM))))))))))))) (jOl_ci rfl (jOl_si rfl (jOl_si rfl (jOl_si rfl (jOl_si rfl (jOl_si rfl (jOl_si rfl (jOl_si rfl (jOl_si rfl (jOl_si rfl (jOl_si rfl (jOl_si rfl (jOl_si rfl O))))))))))))))
        refine x_tableOut (tgt := 96) rfl (by omega) rfl ?_
        refine x_aloadn (x := 31) rfl rfl ?_
        refine x_getR (b := 87) 11 5 rfl f_11_50 rfl (congrArg Prod.fst (sh_ci (sh_si (sh_si (sh_si (sh_si (sh_si (sh_si (sh_si (sh_si (sh_si (sh_si (sh_si (sh_si (F.1 31 (11, 13) rfl rfl))))))))))))))) (rv_ci (rv_si (rv_si (rv_si (rv_si (rv_si (rv_si (rv_si (rv_si (rv_si (rv_si (rv_si (rv_si (F.2.1 3973 87 rfl rfl)))))))))))))) ?_
        refine x_iloadn (x := a2) rfl rfl ?_
        refine x_inv (N := m_X3_rivalsWithin) (As := [.int a2]) (b := 87) (st := []) (d' := 99) (mc := 0) (ms := 0) (host := "") 3 rfl t_X3_rivalsWithin ⟨Or.inl q_11_294, i_X3_rivalsWithin.1, i_X3_rivalsWithin.2⟩ ⟨by decide, rfl⟩ (congrArg Prod.fst (sh_ci (sh_si (sh_si (sh_si (sh_si (sh_si (sh_si (sh_si (sh_si (sh_si (sh_si (sh_si (sh_si (F.1 87 (3, 14) rfl rfl))))))))))))))) rfl (by decide) rfl rfl ⟨by decide, by decide⟩ (jC.of rfl k_X3_rivalsWithin rfl ?_)
        show jX m_X3_rivalsWithin 99 0 0 0 [(0, .ref 87), (1, .int a2)] [] _ 0 0 _
        refine x_iconst (v := 0) rfl ki_0 ?_
        refine x_istoren (ls' := [(2, .int 0), (0, .ref 87), (1, .int a2)]) rfl rfl rfl ?_
        refine x_iconst (v := 0) rfl ki_0 ?_
        refine x_aloadn (x := 87) rfl rfl ?_
        refine y_getI (v := 0) 3 10 rfl f_3_37 rfl (congrArg Prod.fst (sh_ci (sh_si (sh_si (sh_si (sh_si (sh_si (sh_si (sh_si (sh_si (sh_si (sh_si (sh_si (sh_si (F.1 87 (3, 14) rfl rfl))))))))))))))) (iv_ci rfl (iv_si rfl iv_eq)) ?_
        refine x_iloadn (x := a2) rfl rfl ?_
        refine x_isub rfl ?_
        refine x_mmax rfl q_3_88 (by decide) rfl (ti_lt (show (0 : Int32).toInt = 0 by decide) (show (0 - a2 : Int32).toInt = (0 - a2).toInt from rfl) ⟨fun c7 => ?_, fun c7 => ?_⟩)
        ·
          refine x_istoren (ls' := [(3, .int (0 - a2)), (2, .int 0), (0, .ref 87), (1, .int a2)]) rfl rfl rfl ?_
          refine x_iloadn (x := 0 - a2) rfl rfl ?_
          refine x_aloadn (x := 87) rfl rfl ?_
          refine y_getI (v := 0) 3 10 rfl f_3_37 rfl (congrArg Prod.fst (sh_ci (sh_si (sh_si (sh_si (sh_si (sh_si (sh_si (sh_si (sh_si (sh_si (sh_si (sh_si (sh_si (F.1 87 (3, 14) rfl rfl))))))))))))))) (iv_ci rfl (iv_si rfl iv_eq)) ?_
          refine x_icgt (tgt := 45) rfl rfl (ti_gt (show (0 - a2 : Int32).toInt = (0 - a2).toInt from rfl) (show (0 : Int32).toInt = 0 by decide) (br_t c7 ?_))
          refine x_iloadn (x := 0) rfl rfl ?_
          refine x_iret rfl rfl ?_
          show jX m_X11_best 100 0 0 104 [(0, .ref 31), (1, .int a1), (2, .int a2)] [.int 0] _ 0 0 _
          refine x_iret rfl rfl ?_
          exact jqe (show sp_best a1 a2 = 0 by unfold sp_best; (repeat' split) <;> first | rfl | (exfalso; omega)) (hQ _ (jFb_ci rfl (jFb_si rfl (jFb_si rfl (jFb_si rfl (jFb_si rfl (jFb_si rfl (jFb_si rfl (jFb_si rfl (jFb_si rfl (jFb_si rfl (jFb_si rfl (jFb_si rfl (jFb_si rfl FM))))))))))))) (jOl_ci rfl (jOl_si rfl (jOl_si rfl (jOl_si rfl (jOl_si rfl (jOl_si rfl (jOl_si rfl (jOl_si rfl (jOl_si rfl (jOl_si rfl (jOl_si rfl (jOl_si rfl (jOl_si rfl O))))))))))))))
        ·
          refine x_istoren (ls' := [(3, .int 0), (2, .int 0), (0, .ref 87), (1, .int a2)]) rfl rfl rfl ?_
          refine x_iloadn (x := 0) rfl rfl ?_
          refine x_aloadn (x := 87) rfl rfl ?_
          refine y_getI (v := 0) 3 10 rfl f_3_37 rfl (congrArg Prod.fst (sh_ci (sh_si (sh_si (sh_si (sh_si (sh_si (sh_si (sh_si (sh_si (sh_si (sh_si (sh_si (sh_si (F.1 87 (3, 14) rfl rfl))))))))))))))) (iv_ci rfl (iv_si rfl iv_eq)) ?_
          refine x_icgt (tgt := 45) rfl rfl (br_f (by decide) ?_)
          refine x_iloadn (x := 0) rfl rfl ?_
          refine x_aloadn (x := 87) rfl rfl ?_
          refine x_getR (b := 94) 3 9 rfl f_3_34 rfl (congrArg Prod.fst (sh_ci (sh_si (sh_si (sh_si (sh_si (sh_si (sh_si (sh_si (sh_si (sh_si (sh_si (sh_si (sh_si (F.1 87 (3, 14) rfl rfl))))))))))))))) (rv_ci (rv_si (rv_si (rv_si (rv_si (rv_si (rv_si (rv_si (rv_si (rv_si (rv_si (rv_si (rv_si (F.2.1 11145 94 rfl rfl)))))))))))))) ?_
          refine y_alen (N := 14401) (v := 14401) rfl (sh_ci (sh_si (sh_si (sh_si (sh_si (sh_si (sh_si (sh_si (sh_si (sh_si (sh_si (sh_si (sh_si (F.1 94 (100, 14401) rfl rfl)))))))))))))) (by decide) (by decide) ?_
          refine x_icge (tgt := 45) rfl rfl (br_f (by decide) ?_)
          refine x_iloadn (x := 0) rfl rfl ?_
          refine x_aloadn (x := 87) rfl rfl ?_
          refine x_getR (b := 94) 3 9 rfl f_3_34 rfl (congrArg Prod.fst (sh_ci (sh_si (sh_si (sh_si (sh_si (sh_si (sh_si (sh_si (sh_si (sh_si (sh_si (sh_si (sh_si (F.1 87 (3, 14) rfl rfl))))))))))))))) (rv_ci (rv_si (rv_si (rv_si (rv_si (rv_si (rv_si (rv_si (rv_si (rv_si (rv_si (rv_si (rv_si (F.2.1 11145 94 rfl rfl)))))))))))))) ?_
          refine x_iloadn (x := 0) rfl rfl ?_
          refine y_iald (v := 1) (N := 14401) 0 rfl (sh_ci (sh_si (sh_si (sh_si (sh_si (sh_si (sh_si (sh_si (sh_si (sh_si (sh_si (sh_si (sh_si (F.1 94 (100, 14401) rfl rfl)))))))))))))) (jinb_of (by decide)) (by decide) (iv_ci rfl (iv_si rfl (iv_si rfl iv_eq))) ?_
          refine y_iadd (v := 1) rfl (by decide) ?_
          refine x_istoren (ls' := [(2, .int 1), (3, .int 0), (0, .ref 87), (1, .int a2)]) rfl rfl rfl ?_
          refine x_iinc (x := 0) (v := 1) (ls' := [(3, .int 1), (2, .int 1), (0, .ref 87), (1, .int a2)]) rfl rfl (by decide) rfl rfl ?_
          refine x_goto (tgt := 13) rfl rfl ?_
          refine x_iloadn (x := 1) rfl rfl ?_
          refine x_aloadn (x := 87) rfl rfl ?_
          refine y_getI (v := 0) 3 10 rfl f_3_37 rfl (congrArg Prod.fst (sh_ci (sh_si (sh_si (sh_si (sh_si (sh_si (sh_si (sh_si (sh_si (sh_si (sh_si (sh_si (sh_si (F.1 87 (3, 14) rfl rfl))))))))))))))) (iv_ci rfl (iv_si rfl iv_eq)) ?_
          refine x_icgt (tgt := 45) rfl rfl (br_t (by decide) ?_)
          refine x_iloadn (x := 1) rfl rfl ?_
          refine x_iret rfl rfl ?_
          show jX m_X11_best 100 0 0 104 [(0, .ref 31), (1, .int a1), (2, .int a2)] [.int 1] _ 0 0 _
          refine x_iret rfl rfl ?_
          exact jqe (show sp_best a1 a2 = 1 by unfold sp_best; (repeat' split) <;> first | rfl | (exfalso; omega)) (hQ _ (jFb_ci rfl (jFb_si rfl (jFb_si rfl (jFb_si rfl (jFb_si rfl (jFb_si rfl (jFb_si rfl (jFb_si rfl (jFb_si rfl (jFb_si rfl (jFb_si rfl (jFb_si rfl (jFb_si rfl FM))))))))))))) (jOl_ci rfl (jOl_si rfl (jOl_si rfl (jOl_si rfl (jOl_si rfl (jOl_si rfl (jOl_si rfl (jOl_si rfl (jOl_si rfl (jOl_si rfl (jOl_si rfl (jOl_si rfl (jOl_si rfl O))))))))))))))
      ·
        refine x_iloadn (x := a2) rfl rfl ?_
        refine x_iflt (tgt := 25) rfl rfl (ti_lt (show (a2 : Int32).toInt = a2.toInt from rfl) (show (0 : Int32).toInt = 0 by decide) ⟨fun c8 => ?_, fun c8 => ?_⟩)
        ·
          refine x_iconst (v := (-1)) rfl ki_m1 ?_
          refine x_iret rfl rfl ?_
          exact jqe (show sp_best a1 a2 = (-1) by unfold sp_best; (repeat' split) <;> first | rfl | (exfalso; omega)) (hQ _ FM O)
        ·
          refine x_iloadn (x := a2) rfl rfl ?_
          refine x_sipush (v := 1000) rfl ks_1000 ?_
          refine x_icle (tgt := 27) rfl rfl (ti_le (show (a2 : Int32).toInt = a2.toInt from rfl) (show (1000 : Int32).toInt = 1000 by decide) ⟨fun c9 => ?_, fun c9 => ?_⟩)
          ·
            refine x_aloadn (x := 31) rfl rfl ?_
            refine x_getR (b := 78) 11 4 rfl f_11_41 rfl (congrArg Prod.fst (F.1 31 (11, 13) rfl rfl)) (F.2.1 3972 78 rfl rfl) ?_
            refine x_ldc (v := 146399) rfl z_11_233 ?_
            refine x_inv (N := m_X7_asKnown) (As := [.int 146399]) (b := 78) (st := []) (d' := 99) (mc := 0) (ms := 0) (host := "") 7 rfl t_X7_asKnown ⟨Or.inl q_11_240, i_X7_asKnown.1, i_X7_asKnown.2⟩ ⟨by decide, rfl⟩ (congrArg Prod.fst (F.1 78 (7, 16) rfl rfl)) rfl (by decide) rfl rfl ⟨by decide, by decide⟩ (jC.of rfl k_X7_asKnown rfl ?_)
            show jX m_X7_asKnown 99 0 0 0 [(0, .ref 78), (1, .int 146399)] [] _ 0 0 _
            refine x_aloadn (x := 78) rfl rfl ?_
            refine x_getR (b := 86) 7 15 rfl f_7_52 rfl (congrArg Prod.fst (F.1 78 (7, 16) rfl rfl)) (F.2.1 9999 86 rfl rfl) ?_
            refine x_iloadn (x := 146399) rfl rfl ?_
            refine x_iconst (v := 0) rfl ki_0 ?_
            refine x_aloadn (x := 78) rfl rfl ?_
            refine x_getR (b := 32) 7 0 rfl f_7_55 rfl (congrArg Prod.fst (F.1 78 (7, 16) rfl rfl)) (F.2.1 9984 32 rfl rfl) ?_
            refine y_getI (v := 1) 1 19 rfl f_7_140 rfl (congrArg Prod.fst (F.1 32 (1, 20) rfl rfl)) (F.2.2.1 4115 1 rfl rfl) ?_
            refine x_inst (N := m_X11_isFresh) (As := [.ref 86, .int 146399, .int 0, .int 1]) (st := []) (d' := 98) (mc := 0) (ms := 0) (host := "ParishChest") rfl t_X11_isFresh ⟨Or.inr q_7_143, s_X11_isFresh⟩ rfl (by decide) rfl rfl ⟨by decide, by decide⟩ (jC.of rfl k_X11_isFresh rfl ?_)
            show jX m_X11_isFresh 98 0 0 0 [(0, .ref 86), (1, .int 146399), (2, .int 0), (3, .int 1)] [] _ 0 0 _
            refine x_aloadn (x := 86) rfl rfl ?_
            refine y_alen (N := 3) (v := 3) rfl (F.1 86 (100, 3) rfl rfl) (by decide) (by decide) ?_
            refine x_iconst (v := 3) rfl ki_3 ?_
            refine x_icge (tgt := 8) rfl rfl (br_t (by decide) ?_)
            refine x_aloadn (x := 86) rfl rfl ?_
            refine x_iconst (v := 0) rfl ki_0 ?_
            refine y_iald (v := 0) (N := 3) 0 rfl (F.1 86 (100, 3) rfl rfl) (jinb_of (by decide)) (by decide) (F.2.2.2.1 86 rfl rfl 0).1 ?_
            refine x_iloadn (x := 146399) rfl rfl ?_
            refine x_icne (tgt := 33) rfl rfl (bn_t (by decide) ?_)
            refine x_iconst (v := 0) rfl ki_0 ?_
            refine x_istore (ls' := [(4, .int 0), (0, .ref 86), (1, .int 146399), (2, .int 0), (3, .int 1)]) rfl rfl rfl ?_
            refine x_aloadn (x := 86) rfl rfl ?_
            refine x_iconst (v := 0) rfl ki_0 ?_
            refine x_iloadn (x := 146399) rfl rfl ?_
            refine y_iast (N := 3) 0 rfl (F.1 86 (100, 3) rfl rfl) rfl (jinb_of (by decide)) (by decide) ?_
            refine x_aloadn (x := 86) rfl rfl ?_
            refine x_iconst (v := 1) rfl ki_1 ?_
            refine x_iloadn (x := 0) rfl rfl ?_
            refine y_iast (N := 3) 1 rfl (sh_si (F.1 86 (100, 3) rfl rfl)) rfl (jinb_of (by decide)) (by decide) ?_
            refine x_aloadn (x := 86) rfl rfl ?_
            refine x_iconst (v := 2) rfl ki_2 ?_
            refine x_iloadn (x := 1) rfl rfl ?_
            refine y_iast (N := 3) 2 rfl (sh_si (sh_si (F.1 86 (100, 3) rfl rfl))) rfl (jinb_of (by decide)) (by decide) ?_
            refine x_iload (x := 0) rfl rfl ?_
            refine x_zret rfl rfl (by first | decide | exact jp_01 _) ?_
            show jX m_X7_asKnown 99 0 0 16 [(0, .ref 78), (1, .int 146399)] [.int 0] _ 0 0 _
            refine x_ifeq (tgt := 20) rfl rfl (br_t (by decide) ?_)
            refine x_iconst (v := 0) rfl ki_0 ?_
            refine x_istoren (ls' := [(2, .int 0), (0, .ref 78), (1, .int 146399)]) rfl rfl rfl ?_
            refine x_iloadn (x := 0) rfl rfl ?_
            refine x_aloadn (x := 78) rfl rfl ?_
            refine x_getR (b := 32) 7 0 rfl f_7_55 rfl (congrArg Prod.fst (sh_si (sh_si (sh_si (F.1 78 (7, 16) rfl rfl))))) (rv_si (rv_si (rv_si (F.2.1 9984 32 rfl rfl)))) ?_
            refine x_getR (b := 33) 1 0 rfl f_7_63 rfl (congrArg Prod.fst (sh_si (sh_si (sh_si (F.1 32 (1, 20) rfl rfl))))) (rv_si (rv_si (rv_si (F.2.1 4096 33 rfl rfl)))) ?_
            refine y_getI (v := 0) 8 3 rfl f_7_85 rfl (congrArg Prod.fst (sh_si (sh_si (sh_si (F.1 33 (8, 4) rfl rfl))))) (iv_si rfl (iv_si rfl (iv_si rfl (F.2.2.1 4227 0 rfl rfl)))) ?_
            refine x_iconst (v := 3) rfl ki_3 ?_
            refine y_imul (v := 0) rfl (by decide) ?_
            refine x_icge (tgt := 96) rfl rfl (br_t (by decide) ?_)
            refine x_aloadn (x := 78) rfl rfl ?_
            refine x_iconst (v := 0) rfl ki_0 ?_
            refine x_putI 7 13 rfl f_7_46 rfl (jfin_no TX7 RX7 16 rfl rfl) (congrArg Prod.fst (sh_si (sh_si (sh_si (F.1 78 (7, 16) rfl rfl))))) rfl ?_
            refine x_iconst (v := 0) rfl ki_0 ?_
            refine x_istoren (ls' := [(2, .int 0), (0, .ref 78), (1, .int 146399)]) rfl rfl rfl ?_
            refine x_iloadn (x := 0) rfl rfl ?_
            refine x_aloadn (x := 78) rfl rfl ?_
            refine x_getR (b := 32) 7 0 rfl f_7_55 rfl (congrArg Prod.fst (sh_si (sh_si (sh_si (sh_si (F.1 78 (7, 16) rfl rfl)))))) (rv_si (rv_si (rv_si (rv_si (F.2.1 9984 32 rfl rfl))))) ?_
            refine x_getR (b := 39) 1 3 rfl f_7_150 rfl (congrArg Prod.fst (sh_si (sh_si (sh_si (sh_si (F.1 32 (1, 20) rfl rfl)))))) (rv_si (rv_si (rv_si (rv_si (F.2.1 4099 39 rfl rfl))))) ?_
            refine y_getI (v := 0) 8 3 rfl f_7_85 rfl (congrArg Prod.fst (sh_si (sh_si (sh_si (sh_si (F.1 39 (8, 4) rfl rfl)))))) (iv_si rfl (iv_si rfl (iv_si rfl (iv_si rfl (F.2.2.1 4995 0 rfl rfl))))) ?_
            refine x_icge (tgt := 175) rfl rfl (br_t (by decide) ?_)
            refine x_vret rfl rfl ?_
            show jX m_X11_best 100 0 0 36 [(0, .ref 31), (1, .int a1), (2, .int a2)] [] _ 0 0 _
            refine x_aloadn (x := 31) rfl rfl ?_
            refine x_getR (b := 87) 11 5 rfl f_11_50 rfl (congrArg Prod.fst (sh_si (sh_si (sh_si (sh_si (F.1 31 (11, 13) rfl rfl)))))) (rv_si (rv_si (rv_si (rv_si (F.2.1 3973 87 rfl rfl))))) ?_
            refine x_inv (N := m_X3_settle) (As := []) (b := 87) (st := []) (d' := 99) (mc := 0) (ms := 0) (host := "") 3 rfl t_X3_settle ⟨Or.inl q_11_282, i_X3_settle.1, i_X3_settle.2⟩ ⟨by decide, rfl⟩ (congrArg Prod.fst (sh_si (sh_si (sh_si (sh_si (F.1 87 (3, 14) rfl rfl)))))) rfl (by decide) rfl rfl ⟨by decide, by decide⟩ (jC.of rfl k_X3_settle rfl ?_)
            show jX m_X3_settle 99 0 0 0 [(0, .ref 87)] [] _ 0 0 _
            refine x_aloadn (x := 87) rfl rfl ?_
            refine y_getI (v := 0) 3 13 rfl f_3_46 rfl (congrArg Prod.fst (sh_si (sh_si (sh_si (sh_si (F.1 87 (3, 14) rfl rfl)))))) (iv_si rfl (iv_si rfl (iv_si rfl (iv_si rfl (F.2.2.1 11149 0 rfl rfl))))) ?_
            refine x_aloadn (x := 87) rfl rfl ?_
            refine x_getR (b := 32) 3 0 rfl f_3_49 rfl (congrArg Prod.fst (sh_si (sh_si (sh_si (sh_si (F.1 87 (3, 14) rfl rfl)))))) (rv_si (rv_si (rv_si (rv_si (F.2.1 11136 32 rfl rfl))))) ?_
            refine y_getI (v := 1) 1 19 rfl f_3_72 rfl (congrArg Prod.fst (sh_si (sh_si (sh_si (sh_si (F.1 32 (1, 20) rfl rfl)))))) (iv_si rfl (iv_si rfl (iv_si rfl (iv_si rfl (F.2.2.1 4115 1 rfl rfl))))) ?_
            refine x_icne (tgt := 15) rfl rfl (bn_t (by decide) ?_)
            refine x_aloadn (x := 87) rfl rfl ?_
            refine x_aloadn (x := 87) rfl rfl ?_
            refine x_getR (b := 32) 3 0 rfl f_3_49 rfl (congrArg Prod.fst (sh_si (sh_si (sh_si (sh_si (F.1 87 (3, 14) rfl rfl)))))) (rv_si (rv_si (rv_si (rv_si (F.2.1 11136 32 rfl rfl))))) ?_
            refine y_getI (v := 1) 1 19 rfl f_3_72 rfl (congrArg Prod.fst (sh_si (sh_si (sh_si (sh_si (F.1 32 (1, 20) rfl rfl)))))) (iv_si rfl (iv_si rfl (iv_si rfl (iv_si rfl (F.2.2.1 4115 1 rfl rfl))))) ?_
            refine x_putI 3 13 rfl f_3_46 rfl (jfin_no TX3 RX3 14 rfl rfl) (congrArg Prod.fst (sh_si (sh_si (sh_si (sh_si (F.1 87 (3, 14) rfl rfl)))))) rfl ?_
            refine x_aloadn (x := 87) rfl rfl ?_
            refine x_inv (N := m_X3_weighPairs) (As := []) (b := 87) (st := []) (d' := 98) (mc := 0) (ms := 0) (host := "") 3 rfl t_X3_weighPairs ⟨Or.inl q_3_77, i_X3_weighPairs.1, i_X3_weighPairs.2⟩ ⟨by decide, rfl⟩ (congrArg Prod.fst (sh_si (sh_si (sh_si (sh_si (sh_si (F.1 87 (3, 14) rfl rfl))))))) rfl (by decide) rfl rfl ⟨by decide, by decide⟩ (jC.of rfl k_X3_weighPairs rfl ?_)
            show jX m_X3_weighPairs 98 0 0 0 [(0, .ref 87)] [] _ 0 0 _
            refine x_aloadn (x := 87) rfl rfl ?_
            refine x_iconst (v := 0) rfl ki_0 ?_
            refine x_putI 3 12 rfl f_3_43 rfl (jfin_no TX3 RX3 14 rfl rfl) (congrArg Prod.fst (sh_si (sh_si (sh_si (sh_si (sh_si (F.1 87 (3, 14) rfl rfl))))))) rfl ?_
            refine x_iconst (v := 0) rfl ki_0 ?_
            refine x_istoren (ls' := [(1, .int 0), (0, .ref 87)]) rfl rfl rfl ?_
            refine x_iloadn (x := 0) rfl rfl ?_
            refine x_aloadn (x := 87) rfl rfl ?_
            refine y_getI (v := 0) 3 3 rfl f_3_15 rfl (congrArg Prod.fst (sh_si (sh_si (sh_si (sh_si (sh_si (sh_si (F.1 87 (3, 14) rfl rfl)))))))) (iv_si rfl (iv_si rfl (iv_si rfl (iv_si rfl (iv_si rfl (iv_si rfl (F.2.2.1 11139 0 rfl rfl))))))) ?_
            refine x_icge (tgt := 123) rfl rfl (br_t (by decide) ?_)
            refine x_vret rfl rfl ?_
            show jX m_X3_settle 99 0 0 30 [(0, .ref 87)] [] _ 0 0 _
            refine x_iconst (v := 0) rfl ki_0 ?_
            refine x_istoren (ls' := [(1, .int 0), (0, .ref 87)]) rfl rfl rfl ?_
            refine x_iloadn (x := 0) rfl rfl ?_
            refine x_aloadn (x := 87) rfl rfl ?_
            refine y_getI (v := 0) 3 12 rfl f_3_43 rfl (congrArg Prod.fst (sh_si (sh_si (sh_si (sh_si (sh_si (sh_si (F.1 87 (3, 14) rfl rfl)))))))) iv_eq ?_
            refine x_icgt (tgt := 62) rfl rfl (br_f (by decide) ?_)
            refine x_iloadn (x := 0) rfl rfl ?_
            refine x_aloadn (x := 87) rfl rfl ?_
            refine x_getR (b := 94) 3 9 rfl f_3_34 rfl (congrArg Prod.fst (sh_si (sh_si (sh_si (sh_si (sh_si (sh_si (F.1 87 (3, 14) rfl rfl)))))))) (rv_si (rv_si (rv_si (rv_si (rv_si (rv_si (F.2.1 11145 94 rfl rfl))))))) ?_
            refine y_alen (N := 14401) (v := 14401) rfl (sh_si (sh_si (sh_si (sh_si (sh_si (sh_si (F.1 94 (100, 14401) rfl rfl))))))) (by decide) (by decide) ?_
            refine x_icge (tgt := 62) rfl rfl (br_f (by decide) ?_)
            refine x_aloadn (x := 87) rfl rfl ?_
            refine x_getR (b := 94) 3 9 rfl f_3_34 rfl (congrArg Prod.fst (sh_si (sh_si (sh_si (sh_si (sh_si (sh_si (F.1 87 (3, 14) rfl rfl)))))))) (rv_si (rv_si (rv_si (rv_si (rv_si (rv_si (F.2.1 11145 94 rfl rfl))))))) ?_
            refine x_iloadn (x := 0) rfl rfl ?_
            refine x_iconst (v := 0) rfl ki_0 ?_
            refine y_iast (N := 14401) 0 rfl (sh_si (sh_si (sh_si (sh_si (sh_si (sh_si (F.1 94 (100, 14401) rfl rfl))))))) rfl (jinb_of (by decide)) (by decide) ?_
            refine x_iinc (x := 0) (v := 1) (ls' := [(1, .int 1), (0, .ref 87)]) rfl rfl (by decide) rfl rfl ?_
            refine x_goto (tgt := 32) rfl rfl ?_
            refine x_iloadn (x := 1) rfl rfl ?_
            refine x_aloadn (x := 87) rfl rfl ?_
            refine y_getI (v := 0) 3 12 rfl f_3_43 rfl (congrArg Prod.fst (sh_si (sh_si (sh_si (sh_si (sh_si (sh_si (sh_si (F.1 87 (3, 14) rfl rfl))))))))) (iv_si rfl iv_eq) ?_
            refine x_icgt (tgt := 62) rfl rfl (br_t (by decide) ?_)
            refine x_aloadn (x := 87) rfl rfl ?_
            refine x_iconst (v := (-1)) rfl ki_m1 ?_
            refine x_putI 3 10 rfl f_3_37 rfl (jfin_no TX3 RX3 14 rfl rfl) (congrArg Prod.fst (sh_si (sh_si (sh_si (sh_si (sh_si (sh_si (sh_si (F.1 87 (3, 14) rfl rfl))))))))) rfl ?_
            refine x_aloadn (x := 87) rfl rfl ?_
            refine x_iconst (v := 0) rfl ki_0 ?_
            refine x_putI 3 11 rfl f_3_40 rfl (jfin_no TX3 RX3 14 rfl rfl) (congrArg Prod.fst (sh_si (sh_si (sh_si (sh_si (sh_si (sh_si (sh_si (sh_si (F.1 87 (3, 14) rfl rfl)))))))))) rfl ?_
            refine x_aloadn (x := 87) rfl rfl ?_
            refine x_iconst (v := 0) rfl ki_0 ?_
            refine x_iconst (v := 0) rfl ki_0 ?_
            refine x_iconst (v := 0) rfl ki_0 ?_
            refine x_inv (N := m_X3_place) (As := [.int 0, .int 0, .int 0]) (b := 87) (st := []) (d' := 98) (mc := 0) (ms := 0) (host := "") 3 rfl t_X3_place ⟨Or.inl q_3_80, i_X3_place.1, i_X3_place.2⟩ ⟨by decide, rfl⟩ (congrArg Prod.fst (sh_si (sh_si (sh_si (sh_si (sh_si (sh_si (sh_si (sh_si (sh_si (F.1 87 (3, 14) rfl rfl))))))))))) rfl (by decide) rfl rfl ⟨by decide, by decide⟩ (jC.of rfl k_X3_place rfl ?_)
            show jX m_X3_place 98 0 0 0 [(0, .ref 87), (1, .int 0), (2, .int 0), (3, .int 0)] [] _ 0 0 _
            refine x_iloadn (x := 0) rfl rfl ?_
            refine x_iflt (tgt := 18) rfl rfl (br_f (by decide) ?_)
            refine x_iloadn (x := 0) rfl rfl ?_
            refine x_aloadn (x := 87) rfl rfl ?_
            refine y_getI (v := 0) 3 3 rfl f_3_15 rfl (congrArg Prod.fst (sh_si (sh_si (sh_si (sh_si (sh_si (sh_si (sh_si (sh_si (sh_si (F.1 87 (3, 14) rfl rfl))))))))))) (iv_si rfl (iv_si rfl (iv_si rfl (iv_si rfl (iv_si rfl (iv_si rfl (iv_si rfl (iv_si rfl (iv_si rfl (F.2.2.1 11139 0 rfl rfl)))))))))) ?_
            refine x_icge (tgt := 18) rfl rfl (br_t (by decide) ?_)
            refine x_aloadn (x := 87) rfl rfl ?_
            refine x_iloadn (x := 0) rfl rfl ?_
            refine x_iloadn (x := 0) rfl rfl ?_
            refine x_inv (N := m_X3_note) (As := [.int 0, .int 0]) (b := 87) (st := []) (d' := 97) (mc := 0) (ms := 0) (host := "") 3 rfl t_X3_note ⟨Or.inl q_3_93, i_X3_note.1, i_X3_note.2⟩ ⟨by decide, rfl⟩ (congrArg Prod.fst (sh_si (sh_si (sh_si (sh_si (sh_si (sh_si (sh_si (sh_si (sh_si (F.1 87 (3, 14) rfl rfl))))))))))) rfl (by decide) rfl rfl ⟨by decide, by decide⟩ (jC.of rfl k_X3_note rfl ?_)
            show jX m_X3_note 97 0 0 0 [(0, .ref 87), (1, .int 0), (2, .int 0)] [] _ 0 0 _
            refine x_iloadn (x := 0) rfl rfl ?_
            refine x_iflt (tgt := 23) rfl rfl (br_f (by decide) ?_)
            refine x_iloadn (x := 0) rfl rfl ?_
            refine x_aloadn (x := 87) rfl rfl ?_
            refine x_getR (b := 94) 3 9 rfl f_3_34 rfl (congrArg Prod.fst (sh_si (sh_si (sh_si (sh_si (sh_si (sh_si (sh_si (sh_si (sh_si (F.1 87 (3, 14) rfl rfl))))))))))) (rv_si (rv_si (rv_si (rv_si (rv_si (rv_si (rv_si (rv_si (rv_si (F.2.1 11145 94 rfl rfl)))))))))) ?_
            refine y_alen (N := 14401) (v := 14401) rfl (sh_si (sh_si (sh_si (sh_si (sh_si (sh_si (sh_si (sh_si (sh_si (F.1 94 (100, 14401) rfl rfl)))))))))) (by decide) (by decide) ?_
            refine x_icge (tgt := 23) rfl rfl (br_f (by decide) ?_)
            refine x_aloadn (x := 87) rfl rfl ?_
            refine x_getR (b := 94) 3 9 rfl f_3_34 rfl (congrArg Prod.fst (sh_si (sh_si (sh_si (sh_si (sh_si (sh_si (sh_si (sh_si (sh_si (F.1 87 (3, 14) rfl rfl))))))))))) (rv_si (rv_si (rv_si (rv_si (rv_si (rv_si (rv_si (rv_si (rv_si (F.2.1 11145 94 rfl rfl)))))))))) ?_
            refine x_iloadn (x := 0) rfl rfl ?_
            refine x_dup2 rfl rfl rfl ?_
            refine y_iald (v := 0) (N := 14401) 0 rfl (sh_si (sh_si (sh_si (sh_si (sh_si (sh_si (sh_si (sh_si (sh_si (F.1 94 (100, 14401) rfl rfl)))))))))) (jinb_of (by decide)) (by decide) (iv_si rfl (iv_si rfl iv_eq)) ?_
            refine x_iconst (v := 1) rfl ki_1 ?_
            refine y_iadd (v := 1) rfl (by decide) ?_
            refine y_iast (N := 14401) 0 rfl (sh_si (sh_si (sh_si (sh_si (sh_si (sh_si (sh_si (sh_si (sh_si (F.1 94 (100, 14401) rfl rfl)))))))))) rfl (jinb_of (by decide)) (by decide) ?_
            refine x_iloadn (x := 0) rfl rfl ?_
            refine x_aloadn (x := 87) rfl rfl ?_
            refine y_getI (v := (-1)) 3 10 rfl f_3_37 rfl (congrArg Prod.fst (sh_si (sh_si (sh_si (sh_si (sh_si (sh_si (sh_si (sh_si (sh_si (sh_si (F.1 87 (3, 14) rfl rfl)))))))))))) (iv_si rfl (iv_si rfl iv_eq)) ?_
            refine x_icgt (tgt := 47) rfl rfl (br_t (by decide) ?_)
            refine x_aloadn (x := 87) rfl rfl ?_
            refine x_iloadn (x := 0) rfl rfl ?_
            refine x_putI 3 10 rfl f_3_37 rfl (jfin_no TX3 RX3 14 rfl rfl) (congrArg Prod.fst (sh_si (sh_si (sh_si (sh_si (sh_si (sh_si (sh_si (sh_si (sh_si (sh_si (F.1 87 (3, 14) rfl rfl)))))))))))) rfl ?_
            refine x_aloadn (x := 87) rfl rfl ?_
            refine x_iloadn (x := 0) rfl rfl ?_
            refine x_putI 3 11 rfl f_3_40 rfl (jfin_no TX3 RX3 14 rfl rfl) (congrArg Prod.fst (sh_si (sh_si (sh_si (sh_si (sh_si (sh_si (sh_si (sh_si (sh_si (sh_si (sh_si (F.1 87 (3, 14) rfl rfl))))))))))))) rfl ?_
            refine x_aloadn (x := 87) rfl rfl ?_
            refine x_getR (b := 91) 3 6 rfl f_3_25 rfl (congrArg Prod.fst (sh_si (sh_si (sh_si (sh_si (sh_si (sh_si (sh_si (sh_si (sh_si (sh_si (sh_si (sh_si (F.1 87 (3, 14) rfl rfl)))))))))))))) (rv_si (rv_si (rv_si (rv_si (rv_si (rv_si (rv_si (rv_si (rv_si (rv_si (rv_si (rv_si (F.2.1 11142 91 rfl rfl))))))))))))) ?_
            refine x_iconst (v := 0) rfl ki_0 ?_
            refine x_aloadn (x := 87) rfl rfl ?_
            refine x_getR (b := 92) 3 7 rfl f_3_28 rfl (congrArg Prod.fst (sh_si (sh_si (sh_si (sh_si (sh_si (sh_si (sh_si (sh_si (sh_si (sh_si (sh_si (sh_si (F.1 87 (3, 14) rfl rfl)))))))))))))) (rv_si (rv_si (rv_si (rv_si (rv_si (rv_si (rv_si (rv_si (rv_si (rv_si (rv_si (rv_si (F.2.1 11143 92 rfl rfl))))))))))))) ?_
            refine x_iconst (v := 0) rfl ki_0 ?_
            refine x_bipush (v := 9) rfl kb_9 ?_
            refine y_cpi (N1 := 9) (N2 := 9) 0 0 9 rfl ⟨q_3_100, jcp_w⟩ (by decide) rfl rfl rfl (sh_si (sh_si (sh_si (sh_si (sh_si (sh_si (sh_si (sh_si (sh_si (sh_si (sh_si (sh_si (F.1 91 (100, 9) rfl rfl))))))))))))) (sh_si (sh_si (sh_si (sh_si (sh_si (sh_si (sh_si (sh_si (sh_si (sh_si (sh_si (sh_si (F.1 92 (100, 9) rfl rfl))))))))))))) (by decide) (by decide) (by decide) (by decide) (by decide) (by decide) (by decide) (by decide) ?_
            refine x_vret rfl rfl ?_
            show jX m_X3_place 98 0 0 24 [(0, .ref 87), (1, .int 0), (2, .int 0), (3, .int 0)] [] _ 0 0 _
            refine x_vret rfl rfl ?_
            show jX m_X3_settle 99 0 0 79 [(1, .int 1), (0, .ref 87)] [] _ 0 0 _
            refine x_vret rfl rfl ?_
            show jX m_X11_best 100 0 0 43 [(0, .ref 31), (1, .int a1), (2, .int a2)] [] _ 0 0 _
            refine x_iloadn (x := a1) rfl rfl ?_
            by_cases c10 : a1.toInt = 0
            ·
              exfalso
              omega
            by_cases c11 : a1.toInt = 1
            ·
              exfalso
              omega
            by_cases c12 : a1.toInt = 2
            ·
              exfalso
              omega
            refine x_tableOut (tgt := 96) rfl (by omega) rfl ?_
            refine x_aloadn (x := 31) rfl rfl ?_
            refine x_getR (b := 87) 11 5 rfl f_11_50 rfl (congrArg Prod.fst (sh_ci (sh_si (sh_si (sh_si (sh_si (sh_si (sh_si (sh_si (sh_si (sh_si (sh_si (sh_si (sh_si (F.1 31 (11, 13) rfl rfl))))))))))))))) (rv_ci (rv_si (rv_si (rv_si (rv_si (rv_si (rv_si (rv_si (rv_si (rv_si (rv_si (rv_si (rv_si (F.2.1 3973 87 rfl rfl)))))))))))))) ?_
            refine x_iloadn (x := a2) rfl rfl ?_
            refine x_inv (N := m_X3_rivalsWithin) (As := [.int a2]) (b := 87) (st := []) (d' := 99) (mc := 0) (ms := 0) (host := "") 3 rfl t_X3_rivalsWithin ⟨Or.inl q_11_294, i_X3_rivalsWithin.1, i_X3_rivalsWithin.2⟩ ⟨by decide, rfl⟩ (congrArg Prod.fst (sh_ci (sh_si (sh_si (sh_si (sh_si (sh_si (sh_si (sh_si (sh_si (sh_si (sh_si (sh_si (sh_si (F.1 87 (3, 14) rfl rfl))))))))))))))) rfl (by decide) rfl rfl ⟨by decide, by decide⟩ (jC.of rfl k_X3_rivalsWithin rfl ?_)
            show jX m_X3_rivalsWithin 99 0 0 0 [(0, .ref 87), (1, .int a2)] [] _ 0 0 _
            refine x_iconst (v := 0) rfl ki_0 ?_
            refine x_istoren (ls' := [(2, .int 0), (0, .ref 87), (1, .int a2)]) rfl rfl rfl ?_
            refine x_iconst (v := 0) rfl ki_0 ?_
            refine x_aloadn (x := 87) rfl rfl ?_
            refine y_getI (v := 0) 3 10 rfl f_3_37 rfl (congrArg Prod.fst (sh_ci (sh_si (sh_si (sh_si (sh_si (sh_si (sh_si (sh_si (sh_si (sh_si (sh_si (sh_si (sh_si (F.1 87 (3, 14) rfl rfl))))))))))))))) (iv_ci rfl (iv_si rfl iv_eq)) ?_
            refine x_iloadn (x := a2) rfl rfl ?_
            refine x_isub rfl ?_
            have c13 := jsubf (x := 0) (y := a2) (show (0 : Int32).toInt = 0 by decide) (show (a2 : Int32).toInt = a2.toInt from rfl) (by omega)
            refine x_mmax rfl q_3_88 (by decide) rfl (ti_lt (show (0 : Int32).toInt = 0 by decide) (show (0 - a2 : Int32).toInt = (0 - a2).toInt from rfl) ⟨fun c14 => ?_, fun c14 => ?_⟩)
            ·
              exfalso
              omega
            ·
              refine x_istoren (ls' := [(3, .int 0), (2, .int 0), (0, .ref 87), (1, .int a2)]) rfl rfl rfl ?_
              refine x_iloadn (x := 0) rfl rfl ?_
              refine x_aloadn (x := 87) rfl rfl ?_
              refine y_getI (v := 0) 3 10 rfl f_3_37 rfl (congrArg Prod.fst (sh_ci (sh_si (sh_si (sh_si (sh_si (sh_si (sh_si (sh_si (sh_si (sh_si (sh_si (sh_si (sh_si (F.1 87 (3, 14) rfl rfl))))))))))))))) (iv_ci rfl (iv_si rfl iv_eq)) ?_
              refine x_icgt (tgt := 45) rfl rfl (br_f (by decide) ?_)
              refine x_iloadn (x := 0) rfl rfl ?_
              refine x_aloadn (x := 87) rfl rfl ?_
              refine x_getR (b := 94) 3 9 rfl f_3_34 rfl (congrArg Prod.fst (sh_ci (sh_si (sh_si (sh_si (sh_si (sh_si (sh_si (sh_si (sh_si (sh_si (sh_si (sh_si (sh_si (F.1 87 (3, 14) rfl rfl))))))))))))))) (rv_ci (rv_si (rv_si (rv_si (rv_si (rv_si (rv_si (rv_si (rv_si (rv_si (rv_si (rv_si (rv_si (F.2.1 11145 94 rfl rfl)))))))))))))) ?_
              refine y_alen (N := 14401) (v := 14401) rfl (sh_ci (sh_si (sh_si (sh_si (sh_si (sh_si (sh_si (sh_si (sh_si (sh_si (sh_si (sh_si (sh_si (F.1 94 (100, 14401) rfl rfl)))))))))))))) (by decide) (by decide) ?_
              refine x_icge (tgt := 45) rfl rfl (br_f (by decide) ?_)
              refine x_iloadn (x := 0) rfl rfl ?_
              refine x_aloadn (x := 87) rfl rfl ?_
              refine x_getR (b := 94) 3 9 rfl f_3_34 rfl (congrArg Prod.fst (sh_ci (sh_si (sh_si (sh_si (sh_si (sh_si (sh_si (sh_si (sh_si (sh_si (sh_si (sh_si (sh_si (F.1 87 (3, 14) rfl rfl))))))))))))))) (rv_ci (rv_si (rv_si (rv_si (rv_si (rv_si (rv_si (rv_si (rv_si (rv_si (rv_si (rv_si (rv_si (F.2.1 11145 94 rfl rfl)))))))))))))) ?_
              refine x_iloadn (x := 0) rfl rfl ?_
              refine y_iald (v := 1) (N := 14401) 0 rfl (sh_ci (sh_si (sh_si (sh_si (sh_si (sh_si (sh_si (sh_si (sh_si (sh_si (sh_si (sh_si (sh_si (F.1 94 (100, 14401) rfl rfl)))))))))))))) (jinb_of (by decide)) (by decide) (iv_ci rfl (iv_si rfl (iv_si rfl iv_eq))) ?_
              refine y_iadd (v := 1) rfl (by decide) ?_
              refine x_istoren (ls' := [(2, .int 1), (3, .int 0), (0, .ref 87), (1, .int a2)]) rfl rfl rfl ?_
              refine x_iinc (x := 0) (v := 1) (ls' := [(3, .int 1), (2, .int 1), (0, .ref 87), (1, .int a2)]) rfl rfl (by decide) rfl rfl ?_
              refine x_goto (tgt := 13) rfl rfl ?_
              refine x_iloadn (x := 1) rfl rfl ?_
              refine x_aloadn (x := 87) rfl rfl ?_
              refine y_getI (v := 0) 3 10 rfl f_3_37 rfl (congrArg Prod.fst (sh_ci (sh_si (sh_si (sh_si (sh_si (sh_si (sh_si (sh_si (sh_si (sh_si (sh_si (sh_si (sh_si (F.1 87 (3, 14) rfl rfl))))))))))))))) (iv_ci rfl (iv_si rfl iv_eq)) ?_
              refine x_icgt (tgt := 45) rfl rfl (br_t (by decide) ?_)
              refine x_iloadn (x := 1) rfl rfl ?_
              refine x_iret rfl rfl ?_
              show jX m_X11_best 100 0 0 104 [(0, .ref 31), (1, .int a1), (2, .int a2)] [.int 1] _ 0 0 _
              refine x_iret rfl rfl ?_
              exact jqe (show sp_best a1 a2 = 1 by unfold sp_best; (repeat' split) <;> first | rfl | (exfalso; omega)) (hQ _ (jFb_ci rfl (jFb_si rfl (jFb_si rfl (jFb_si rfl (jFb_si rfl (jFb_si rfl (jFb_si rfl (jFb_si rfl (jFb_si rfl (jFb_si rfl (jFb_si rfl (jFb_si rfl (jFb_si rfl FM))))))))))))) (jOl_ci rfl (jOl_si rfl (jOl_si rfl (jOl_si rfl (jOl_si rfl (jOl_si rfl (jOl_si rfl (jOl_si rfl (jOl_si rfl (jOl_si rfl (jOl_si rfl (jOl_si rfl (jOl_si rfl O))))))))))))))
          ·
            refine x_iconst (v := (-1)) rfl ki_m1 ?_
            refine x_iret rfl rfl ?_
            exact jqe (show sp_best a1 a2 = (-1) by unfold sp_best; (repeat' split) <;> first | rfl | (exfalso; omega)) (hQ _ FM O)
set_option maxRecDepth 100000 in
set_option maxHeartbeats 40000000 in
theorem pm_best (a1 a2 : Int32) {xs : Nat → Int32} {h : jH} {Q : Option Value → jH → Prop} (F : jFb 125 h) (O : jOl 7 xs h) (hQ : ∀ h', jOl 7 xs h' → Q (some (.int (sp_best a1 a2))) h') : jC m_X12_best 100 0 0 [.ref 125, .int a1, .int a2] h Q := by
  refine jC.of rfl k_X12_best rfl ?_
  show jX m_X12_best 100 0 0 0 [(0, .ref 125), (1, .int a1), (2, .int a2)] [] _ 0 0 _
  refine x_aloadn (x := 125) rfl rfl ?_
  refine x_iconst (v := 0) rfl ki_0 ?_
  refine x_putI 12 0 rfl f_12_180 rfl (jfin_no TX12 RX12 92 rfl rfl) (congrArg Prod.fst (F.1 125 (12, 92) rfl rfl)) rfl ?_
  refine x_iloadn (x := a1) rfl rfl ?_
  refine x_i2l rfl ?_
  refine x_lconst (v := 0) rfl kl_0 ?_
  refine x_ldc2 (v := 3) rfl z_12_195 ?_
  refine x_inst (N := m_X12_in) (As := [.long (a1.toInt64), .long 0, .long 3]) (st := []) (d' := 99) (mc := 0) (ms := 0) (host := "") rfl t_X12_in ⟨Or.inl q_12_188, s_X12_in⟩ rfl (by decide) rfl rfl ⟨by decide, by decide⟩ (c_X12_in (m := a1.toInt) (a := 0) (b := 3) (jt_l _) (by decide) (by decide) ?_)
  show jX m_X12_best 100 0 0 14 [(0, .ref 125), (1, .int a1), (2, .int a2)] [.int (jp (0 ≤ a1.toInt ∧ a1.toInt ≤ 3))] _ 0 0 _
  refine x_ifeq (tgt := 34) rfl rfl (jpe ⟨fun c1 => ?_, fun c1 => ?_⟩)
  ·
    refine x_iconst (v := (-1)) rfl ki_m1 ?_
    refine x_iret rfl rfl ?_
    exact jqe (show sp_best a1 a2 = (-1) by unfold sp_best; (repeat' split) <;> first | rfl | (exfalso; omega)) (hQ _ (jOl_si rfl O))
  ·
    refine x_iloadn (x := a1) rfl rfl ?_
    refine x_iconst (v := 3) rfl ki_3 ?_
    refine x_icne (tgt := 36) rfl rfl (ti_ne (show (a1 : Int32).toInt = a1.toInt from rfl) (show (3 : Int32).toInt = 3 by decide) ⟨fun c2 => ?_, fun c2 => ?_⟩)
    ·
      refine x_aloadn (x := 125) rfl rfl ?_
      refine x_iloadn (x := a1) rfl rfl ?_
      refine x_iconst (v := 3) rfl ki_3 ?_
      refine x_icne (tgt := 46) rfl rfl (ti_ne (show (a1 : Int32).toInt = a1.toInt from rfl) (show (3 : Int32).toInt = 3 by decide) (bn_t c2 ?_))
      refine x_iconst (v := 0) rfl ki_0 ?_
      refine x_inv (N := m_X12_findBest) (As := [.int 0]) (b := 125) (st := []) (d' := 99) (mc := 0) (ms := 0) (host := "") 12 rfl t_X12_findBest ⟨Or.inl q_12_468, i_X12_findBest.1, i_X12_findBest.2⟩ ⟨by decide, rfl⟩ (congrArg Prod.fst (sh_si (F.1 125 (12, 92) rfl rfl))) rfl (by decide) rfl rfl ⟨by decide, by decide⟩ (jC.of rfl k_X12_findBest rfl ?_)
      show jX m_X12_findBest 99 0 0 0 [(0, .ref 125), (1, .int 0)] [] _ 0 0 _
      refine x_aloadn (x := 125) rfl rfl ?_
      refine x_inv (N := m_X12_weigh) (As := []) (b := 125) (st := []) (d' := 98) (mc := 0) (ms := 0) (host := "") 12 rfl t_X12_weigh ⟨Or.inl q_12_443, i_X12_weigh.1, i_X12_weigh.2⟩ ⟨by decide, rfl⟩ (congrArg Prod.fst (sh_si (F.1 125 (12, 92) rfl rfl))) rfl (by decide) rfl rfl ⟨by decide, by decide⟩ (jC.of rfl k_X12_weigh rfl ?_)
      show jX m_X12_weigh 98 0 0 0 [(0, .ref 125)] [] _ 0 0 _
      refine x_aloadn (x := 125) rfl rfl ?_
      refine x_ldcw (v := 146399) rfl z_12_392 ?_
      refine x_inv (N := m_X12_find) (As := [.int 146399]) (b := 125) (st := []) (d' := 97) (mc := 0) (ms := 0) (host := "") 12 rfl t_X12_find ⟨Or.inl q_12_393, i_X12_find.1, i_X12_find.2⟩ ⟨by decide, rfl⟩ (congrArg Prod.fst (sh_si (F.1 125 (12, 92) rfl rfl))) rfl (by decide) rfl rfl ⟨by decide, by decide⟩ (jC.of rfl k_X12_find rfl ?_)
      show jX m_X12_find 97 0 0 0 [(0, .ref 125), (1, .int 146399)] [] _ 0 0 _
      refine x_aloadn (x := 125) rfl rfl ?_
      refine x_iloadn (x := 146399) rfl rfl ?_
      refine x_putI 12 28 rfl f_12_377 rfl (jfin_no TX12 RX12 92 rfl rfl) (congrArg Prod.fst (sh_si (F.1 125 (12, 92) rfl rfl))) rfl ?_
      refine x_aloadn (x := 125) rfl rfl ?_
      refine x_iconst (v := 0) rfl ki_0 ?_
      refine x_putI 12 31 rfl f_12_380 rfl (jfin_no TX12 RX12 92 rfl rfl) (congrArg Prod.fst (sh_si (sh_si (F.1 125 (12, 92) rfl rfl)))) rfl ?_
      refine x_aloadn (x := 125) rfl rfl ?_
      refine x_iconst (v := (-1)) rfl ki_m1 ?_
      refine x_putI 12 57 rfl f_12_111 rfl (jfin_no TX12 RX12 92 rfl rfl) (congrArg Prod.fst (sh_si (sh_si (sh_si (F.1 125 (12, 92) rfl rfl))))) rfl ?_
      refine x_iconst (v := 0) rfl ki_0 ?_
      refine x_istoren (ls' := [(2, .int 0), (0, .ref 125), (1, .int 146399)]) rfl rfl rfl ?_
      refine x_iloadn (x := 0) rfl rfl ?_
      refine x_iconst (v := 3) rfl ki_3 ?_
      refine x_aloadn (x := 125) rfl rfl ?_
      refine x_getR (b := 126) 12 2 rfl f_12_8 rfl (congrArg Prod.fst (sh_si (sh_si (sh_si (sh_si (F.1 125 (12, 92) rfl rfl)))))) (rv_si (rv_si (rv_si (rv_si (F.2.1 16002 126 rfl rfl))))) ?_
      refine x_iconst (v := 0) rfl ki_0 ?_
      refine y_iald (v := 0) (N := 50660) 0 rfl (sh_si (sh_si (sh_si (sh_si (F.1 126 (100, 50660) rfl rfl))))) (jinb_of (by decide)) (by decide) (iv_si rfl (iv_si rfl (iv_si rfl (iv_si rfl (F.2.2.2.1 126 rfl rfl 0).1)))) ?_
      refine y_imul (v := 0) rfl (by decide) ?_
      refine x_icge (tgt := 65) rfl rfl (br_t (by decide) ?_)
      refine x_iconst (v := 0) rfl ki_0 ?_
      refine x_istoren (ls' := [(2, .int 0), (0, .ref 125), (1, .int 146399)]) rfl rfl rfl ?_
      refine x_iloadn (x := 0) rfl rfl ?_
      refine x_aloadn (x := 125) rfl rfl ?_
      refine x_getR (b := 126) 12 2 rfl f_12_8 rfl (congrArg Prod.fst (sh_si (sh_si (sh_si (sh_si (F.1 125 (12, 92) rfl rfl)))))) (rv_si (rv_si (rv_si (rv_si (F.2.1 16002 126 rfl rfl))))) ?_
      refine x_iconst (v := 2) rfl ki_2 ?_
      refine y_iald (v := 0) (N := 50660) 2 rfl (sh_si (sh_si (sh_si (sh_si (F.1 126 (100, 50660) rfl rfl))))) (jinb_of (by decide)) (by decide) (iv_si rfl (iv_si rfl (iv_si rfl (iv_si rfl (F.2.2.2.1 126 rfl rfl 2).1)))) ?_
      refine x_icge (tgt := 227) rfl rfl (br_t (by decide) ?_)
      refine x_vret rfl rfl ?_
      show jX m_X12_weigh 98 0 0 7 [(0, .ref 125)] [] _ 0 0 _
      refine x_aloadn (x := 125) rfl rfl ?_
      refine x_iconst (v := 0) rfl ki_0 ?_
      refine x_putI 12 45 rfl f_12_440 rfl (jfin_no TX12 RX12 92 rfl rfl) (congrArg Prod.fst (sh_si (sh_si (sh_si (sh_si (F.1 125 (12, 92) rfl rfl)))))) rfl ?_
      refine x_iconst (v := 0) rfl ki_0 ?_
      refine x_istoren (ls' := [(1, .int 0), (0, .ref 125)]) rfl rfl rfl ?_
      refine x_iloadn (x := 0) rfl rfl ?_
      refine x_aloadn (x := 125) rfl rfl ?_
      refine y_getI (v := 0) 12 36 rfl f_12_204 rfl (congrArg Prod.fst (sh_si (sh_si (sh_si (sh_si (sh_si (F.1 125 (12, 92) rfl rfl))))))) (iv_si rfl (iv_si rfl (iv_si rfl (iv_si rfl (iv_si rfl (F.2.2.1 16036 0 rfl rfl)))))) ?_
      refine x_icge (tgt := 182) rfl rfl (br_t (by decide) ?_)
      refine x_vret rfl rfl ?_
      show jX m_X12_findBest 99 0 0 4 [(0, .ref 125), (1, .int 0)] [] _ 0 0 _
      refine x_aloadn (x := 125) rfl rfl ?_
      refine x_iconst (v := (-1)) rfl ki_m1 ?_
      refine x_putI 12 43 rfl f_12_446 rfl (jfin_no TX12 RX12 92 rfl rfl) (congrArg Prod.fst (sh_si (sh_si (sh_si (sh_si (sh_si (F.1 125 (12, 92) rfl rfl))))))) rfl ?_
      refine x_aloadn (x := 125) rfl rfl ?_
      refine x_iconst (v := 0) rfl ki_0 ?_
      refine x_putI 12 44 rfl f_12_449 rfl (jfin_no TX12 RX12 92 rfl rfl) (congrArg Prod.fst (sh_si (sh_si (sh_si (sh_si (sh_si (sh_si (F.1 125 (12, 92) rfl rfl)))))))) rfl ?_
      refine x_aloadn (x := 125) rfl rfl ?_
      refine x_inv (N := m_X12_firstGroups) (As := []) (b := 125) (st := []) (d' := 98) (mc := 0) (ms := 0) (host := "") 12 rfl t_X12_firstGroups ⟨Or.inl q_12_452, i_X12_firstGroups.1, i_X12_firstGroups.2⟩ ⟨by decide, rfl⟩ (congrArg Prod.fst (sh_si (sh_si (sh_si (sh_si (sh_si (sh_si (sh_si (F.1 125 (12, 92) rfl rfl))))))))) rfl (by decide) rfl rfl ⟨by decide, by decide⟩ (jC.of rfl k_X12_firstGroups rfl ?_)
      show jX m_X12_firstGroups 98 0 0 0 [(0, .ref 125)] [] _ 0 0 _
      refine x_iconst (v := 0) rfl ki_0 ?_
      refine x_istoren (ls' := [(1, .int 0), (0, .ref 125)]) rfl rfl rfl ?_
      refine x_iloadn (x := 0) rfl rfl ?_
      refine x_bipush (v := 9) rfl kb_9 ?_
      refine x_icge (tgt := 21) rfl rfl (br_f (by decide) ?_)
      refine x_aloadn (x := 125) rfl rfl ?_
      refine x_getR (b := 145) 12 41 rfl f_12_90 rfl (congrArg Prod.fst (sh_si (sh_si (sh_si (sh_si (sh_si (sh_si (sh_si (F.1 125 (12, 92) rfl rfl))))))))) (rv_si (rv_si (rv_si (rv_si (rv_si (rv_si (rv_si (F.2.1 16041 145 rfl rfl)))))))) ?_
      refine x_iloadn (x := 0) rfl rfl ?_
      refine x_iconst (v := 0) rfl ki_0 ?_
      refine y_iast (N := 9) 0 rfl (sh_si (sh_si (sh_si (sh_si (sh_si (sh_si (sh_si (F.1 145 (100, 9) rfl rfl)))))))) rfl (jinb_of (by decide)) (by decide) ?_
      refine x_iinc (x := 0) (v := 1) (ls' := [(1, .int 1), (0, .ref 125)]) rfl rfl (by decide) rfl rfl ?_
      refine x_goto (tgt := 2) rfl rfl ?_
      refine x_iloadn (x := 1) rfl rfl ?_
      refine x_bipush (v := 9) rfl kb_9 ?_
      refine x_icge (tgt := 21) rfl rfl (br_f (by decide) ?_)
      refine x_aloadn (x := 125) rfl rfl ?_
      refine x_getR (b := 145) 12 41 rfl f_12_90 rfl (congrArg Prod.fst (sh_si (sh_si (sh_si (sh_si (sh_si (sh_si (sh_si (sh_si (F.1 125 (12, 92) rfl rfl)))))))))) (rv_si (rv_si (rv_si (rv_si (rv_si (rv_si (rv_si (rv_si (F.2.1 16041 145 rfl rfl))))))))) ?_
      refine x_iloadn (x := 1) rfl rfl ?_
      refine x_iconst (v := 0) rfl ki_0 ?_
      refine y_iast (N := 9) 1 rfl (sh_si (sh_si (sh_si (sh_si (sh_si (sh_si (sh_si (sh_si (F.1 145 (100, 9) rfl rfl))))))))) rfl (jinb_of (by decide)) (by decide) ?_
      refine x_iinc (x := 1) (v := 2) (ls' := [(1, .int 2), (0, .ref 125)]) rfl rfl (by decide) rfl rfl ?_
      refine x_goto (tgt := 2) rfl rfl ?_
      refine x_iloadn (x := 2) rfl rfl ?_
      refine x_bipush (v := 9) rfl kb_9 ?_
      refine x_icge (tgt := 21) rfl rfl (br_f (by decide) ?_)
      refine x_aloadn (x := 125) rfl rfl ?_
      refine x_getR (b := 145) 12 41 rfl f_12_90 rfl (congrArg Prod.fst (sh_si (sh_si (sh_si (sh_si (sh_si (sh_si (sh_si (sh_si (sh_si (F.1 125 (12, 92) rfl rfl))))))))))) (rv_si (rv_si (rv_si (rv_si (rv_si (rv_si (rv_si (rv_si (rv_si (F.2.1 16041 145 rfl rfl)))))))))) ?_
      refine x_iloadn (x := 2) rfl rfl ?_
      refine x_iconst (v := 0) rfl ki_0 ?_
      refine y_iast (N := 9) 2 rfl (sh_si (sh_si (sh_si (sh_si (sh_si (sh_si (sh_si (sh_si (sh_si (F.1 145 (100, 9) rfl rfl)))))))))) rfl (jinb_of (by decide)) (by decide) ?_
      refine x_iinc (x := 2) (v := 3) (ls' := [(1, .int 3), (0, .ref 125)]) rfl rfl (by decide) rfl rfl ?_
      refine x_goto (tgt := 2) rfl rfl ?_
      refine x_iloadn (x := 3) rfl rfl ?_
      refine x_bipush (v := 9) rfl kb_9 ?_
      refine x_icge (tgt := 21) rfl rfl (br_f (by decide) ?_)
      refine x_aloadn (x := 125) rfl rfl ?_
      refine x_getR (b := 145) 12 41 rfl f_12_90 rfl (congrArg Prod.fst (sh_si (sh_si (sh_si (sh_si (sh_si (sh_si (sh_si (sh_si (sh_si (sh_si (F.1 125 (12, 92) rfl rfl)))))))))))) (rv_si (rv_si (rv_si (rv_si (rv_si (rv_si (rv_si (rv_si (rv_si (rv_si (F.2.1 16041 145 rfl rfl))))))))))) ?_
      refine x_iloadn (x := 3) rfl rfl ?_
      refine x_iconst (v := 0) rfl ki_0 ?_
      refine y_iast (N := 9) 3 rfl (sh_si (sh_si (sh_si (sh_si (sh_si (sh_si (sh_si (sh_si (sh_si (sh_si (F.1 145 (100, 9) rfl rfl))))))))))) rfl (jinb_of (by decide)) (by decide) ?_
      refine x_iinc (x := 3) (v := 4) (ls' := [(1, .int 4), (0, .ref 125)]) rfl rfl (by decide) rfl rfl ?_
      refine x_goto (tgt := 2) rfl rfl ?_
      refine x_iloadn (x := 4) rfl rfl ?_
      refine x_bipush (v := 9) rfl kb_9 ?_
      refine x_icge (tgt := 21) rfl rfl (br_f (by decide) ?_)
      refine x_aloadn (x := 125) rfl rfl ?_
      refine x_getR (b := 145) 12 41 rfl f_12_90 rfl (congrArg Prod.fst (sh_si (sh_si (sh_si (sh_si (sh_si (sh_si (sh_si (sh_si (sh_si (sh_si (sh_si (F.1 125 (12, 92) rfl rfl))))))))))))) (rv_si (rv_si (rv_si (rv_si (rv_si (rv_si (rv_si (rv_si (rv_si (rv_si (rv_si (F.2.1 16041 145 rfl rfl)))))))))))) ?_
      refine x_iloadn (x := 4) rfl rfl ?_
      refine x_iconst (v := 0) rfl ki_0 ?_
      refine y_iast (N := 9) 4 rfl (sh_si (sh_si (sh_si (sh_si (sh_si (sh_si (sh_si (sh_si (sh_si (sh_si (sh_si (F.1 145 (100, 9) rfl rfl)))))))))))) rfl (jinb_of (by decide)) (by decide) ?_
      refine x_iinc (x := 4) (v := 5) (ls' := [(1, .int 5), (0, .ref 125)]) rfl rfl (by decide) rfl rfl ?_
      refine x_goto (tgt := 2) rfl rfl ?_
      refine x_iloadn (x := 5) rfl rfl ?_
      refine x_bipush (v := 9) rfl kb_9 ?_
      refine x_icge (tgt := 21) rfl rfl (br_f (by decide) ?_)
      refine x_aloadn (x := 125) rfl rfl ?_
      refine x_getR (b := 145) 12 41 rfl f_12_90 rfl (congrArg Prod.fst (sh_si (sh_si (sh_si (sh_si (sh_si (sh_si (sh_si (sh_si (sh_si (sh_si (sh_si (sh_si (F.1 125 (12, 92) rfl rfl)))))))))))))) (rv_si (rv_si (rv_si (rv_si (rv_si (rv_si (rv_si (rv_si (rv_si (rv_si (rv_si (rv_si (F.2.1 16041 145 rfl rfl))))))))))))) ?_
      refine x_iloadn (x := 5) rfl rfl ?_
      refine x_iconst (v := 0) rfl ki_0 ?_
      refine y_iast (N := 9) 5 rfl (sh_si (sh_si (sh_si (sh_si (sh_si (sh_si (sh_si (sh_si (sh_si (sh_si (sh_si (sh_si (F.1 145 (100, 9) rfl rfl))))))))))))) rfl (jinb_of (by decide)) (by decide) ?_
      refine x_iinc (x := 5) (v := 6) (ls' := [(1, .int 6), (0, .ref 125)]) rfl rfl (by decide) rfl rfl ?_
      refine x_goto (tgt := 2) rfl rfl ?_
      refine x_iloadn (x := 6) rfl rfl ?_
      refine x_bipush (v := 9) rfl kb_9 ?_
      refine x_icge (tgt := 21) rfl rfl (br_f (by decide) ?_)
      refine x_aloadn (x := 125) rfl rfl ?_
      refine x_getR (b := 145) 12 41 rfl f_12_90 rfl (congrArg Prod.fst (sh_si (sh_si (sh_si (sh_si (sh_si (sh_si (sh_si (sh_si (sh_si (sh_si (sh_si (sh_si (sh_si (F.1 125 (12, 92) rfl rfl))))))))))))))) (rv_si (rv_si (rv_si (rv_si (rv_si (rv_si (rv_si (rv_si (rv_si (rv_si (rv_si (rv_si (rv_si (F.2.1 16041 145 rfl rfl)))))))))))))) ?_
      refine x_iloadn (x := 6) rfl rfl ?_
      refine x_iconst (v := 0) rfl ki_0 ?_
      refine y_iast (N := 9) 6 rfl (sh_si (sh_si (sh_si (sh_si (sh_si (sh_si (sh_si (sh_si (sh_si (sh_si (sh_si (sh_si (sh_si (F.1 145 (100, 9) rfl rfl)))))))))))))) rfl (jinb_of (by decide)) (by decide) ?_
      refine x_iinc (x := 6) (v := 7) (ls' := [(1, .int 7), (0, .ref 125)]) rfl rfl (by decide) rfl rfl ?_
      refine x_goto (tgt := 2) rfl rfl ?_
      refine x_iloadn (x := 7) rfl rfl ?_
      refine x_bipush (v := 9) rfl kb_9 ?_
      refine x_icge (tgt := 21) rfl rfl (br_f (by decide) ?_)
      refine x_aloadn (x := 125) rfl rfl ?_
      refine x_getR (b := 145) 12 41 rfl f_12_90 rfl (congrArg Prod.fst (sh_si (sh_si (sh_si (sh_si (sh_si (sh_si (sh_si (sh_si (sh_si (sh_si (sh_si (sh_si (sh_si (sh_si (F.1 125 (12, 92) rfl rfl)))))))))))))))) (rv_si (rv_si (rv_si (rv_si (rv_si (rv_si (rv_si (rv_si (rv_si (rv_si (rv_si (rv_si (rv_si (rv_si (F.2.1 16041 145 rfl rfl))))))))))))))) ?_
      refine x_iloadn (x := 7) rfl rfl ?_
      refine x_iconst (v := 0) rfl ki_0 ?_
      refine y_iast (N := 9) 7 rfl (sh_si (sh_si (sh_si (sh_si (sh_si (sh_si (sh_si (sh_si (sh_si (sh_si (sh_si (sh_si (sh_si (sh_si (F.1 145 (100, 9) rfl rfl))))))))))))))) rfl (jinb_of (by decide)) (by decide) ?_
      refine x_iinc (x := 7) (v := 8) (ls' := [(1, .int 8), (0, .ref 125)]) rfl rfl (by decide) rfl rfl ?_
      refine x_goto (tgt := 2) rfl rfl ?_
      refine x_iloadn (x := 8) rfl rfl ?_
      refine x_bipush (v := 9) rfl kb_9 ?_
      refine x_icge (tgt := 21) rfl rfl (br_f (by decide) ?_)
      refine x_aloadn (x := 125) rfl rfl ?_
      refine x_getR (b := 145) 12 41 rfl f_12_90 rfl (congrArg Prod.fst (sh_si (sh_si (sh_si (sh_si (sh_si (sh_si (sh_si (sh_si (sh_si (sh_si (sh_si (sh_si (sh_si (sh_si (sh_si (F.1 125 (12, 92) rfl rfl))))))))))))))))) (rv_si (rv_si (rv_si (rv_si (rv_si (rv_si (rv_si (rv_si (rv_si (rv_si (rv_si (rv_si (rv_si (rv_si (rv_si (F.2.1 16041 145 rfl rfl)))))))))))))))) ?_
      refine x_iloadn (x := 8) rfl rfl ?_
      refine x_iconst (v := 0) rfl ki_0 ?_
      refine y_iast (N := 9) 8 rfl (sh_si (sh_si (sh_si (sh_si (sh_si (sh_si (sh_si (sh_si (sh_si (sh_si (sh_si (sh_si (sh_si (sh_si (sh_si (F.1 145 (100, 9) rfl rfl)))))))))))))))) rfl (jinb_of (by decide)) (by decide) ?_
      refine x_iinc (x := 8) (v := 9) (ls' := [(1, .int 9), (0, .ref 125)]) rfl rfl (by decide) rfl rfl ?_
      refine x_goto (tgt := 2) rfl rfl ?_
      refine x_iloadn (x := 9) rfl rfl ?_
      refine x_bipush (v := 9) rfl kb_9 ?_
      refine x_icge (tgt := 21) rfl rfl (br_t (by decide) ?_)
      refine x_vret rfl rfl ?_
      show jX m_X12_findBest 99 0 0 18 [(0, .ref 125), (1, .int 0)] [] _ 0 0 _
      refine x_iconst (v := 1) rfl ki_1 ?_
      refine x_istoren (ls' := [(2, .int 1), (0, .ref 125), (1, .int 0)]) rfl rfl rfl ?_
      refine x_iloadn (x := 1) rfl rfl ?_
      refine x_ifeq (tgt := 160) rfl rfl (br_f (by decide) ?_)
      refine x_aloadn (x := 125) rfl rfl ?_
      refine x_inv (N := m_X12_groupsWorth) (As := []) (b := 125) (st := []) (d' := 98) (mc := 0) (ms := 0) (host := "") 12 rfl t_X12_groupsWorth ⟨Or.inl q_12_455, i_X12_groupsWorth.1, i_X12_groupsWorth.2⟩ ⟨by decide, rfl⟩ (congrArg Prod.fst (sh_si (sh_si (sh_si (sh_si (sh_si (sh_si (sh_si (sh_si (sh_si (sh_si (sh_si (sh_si (sh_si (sh_si (sh_si (sh_si (F.1 125 (12, 92) rfl rfl)))))))))))))))))) rfl (by decide) rfl rfl ⟨by decide, by decide⟩ (jC.of rfl k_X12_groupsWorth rfl ?_)
      show jX m_X12_groupsWorth 98 0 0 0 [(0, .ref 125)] [] _ 0 0 _
      refine x_iconst (v := 0) rfl ki_0 ?_
      refine x_istoren (ls' := [(1, .int 0), (0, .ref 125)]) rfl rfl rfl ?_
      refine x_iconst (v := 1) rfl ki_1 ?_
      refine x_istoren (ls' := [(2, .int 1), (1, .int 0), (0, .ref 125)]) rfl rfl rfl ?_
      refine x_iconst (v := 0) rfl ki_0 ?_
      refine x_istoren (ls' := [(3, .int 0), (2, .int 1), (1, .int 0), (0, .ref 125)]) rfl rfl rfl ?_
      refine x_iloadn (x := 0) rfl rfl ?_
      refine x_aloadn (x := 125) rfl rfl ?_
      refine y_getI (v := 0) 12 36 rfl f_12_204 rfl (congrArg Prod.fst (sh_si (sh_si (sh_si (sh_si (sh_si (sh_si (sh_si (sh_si (sh_si (sh_si (sh_si (sh_si (sh_si (sh_si (sh_si (sh_si (F.1 125 (12, 92) rfl rfl)))))))))))))))))) (iv_si rfl (iv_si rfl (iv_si rfl (iv_si rfl (iv_si rfl (iv_si rfl (iv_si rfl (iv_si rfl (iv_si rfl (iv_si rfl (iv_si rfl (iv_si rfl (iv_si rfl (iv_si rfl (iv_si rfl (iv_si rfl (F.2.2.1 16036 0 rfl rfl))))))))))))))))) ?_
      refine x_icge (tgt := 130) rfl rfl (br_t (by decide) ?_)
      refine x_iloadn (x := 1) rfl rfl ?_
      refine x_ifeq (tgt := 138) rfl rfl (br_f (by decide) ?_)
      refine x_iloadn (x := 0) rfl rfl ?_
      refine x_goto (tgt := 139) rfl rfl ?_
      refine x_iret rfl rfl ?_
      show jX m_X12_findBest 99 0 0 28 [(2, .int 1), (0, .ref 125), (1, .int 0)] [.int 0] _ 0 0 _
      refine x_istoren (ls' := [(3, .int 0), (2, .int 1), (0, .ref 125), (1, .int 0)]) rfl rfl rfl ?_
      refine x_iconst (v := 0) rfl ki_0 ?_
      refine x_istore (ls' := [(4, .int 0), (3, .int 0), (2, .int 1), (0, .ref 125), (1, .int 0)]) rfl rfl rfl ?_
      refine x_iconst (v := 0) rfl ki_0 ?_
      refine x_istore (ls' := [(5, .int 0), (4, .int 0), (3, .int 0), (2, .int 1), (0, .ref 125), (1, .int 0)]) rfl rfl rfl ?_
      refine x_iload (x := 0) rfl rfl ?_
      refine x_aloadn (x := 125) rfl rfl ?_
      refine y_getI (v := 0) 12 36 rfl f_12_204 rfl (congrArg Prod.fst (sh_si (sh_si (sh_si (sh_si (sh_si (sh_si (sh_si (sh_si (sh_si (sh_si (sh_si (sh_si (sh_si (sh_si (sh_si (sh_si (F.1 125 (12, 92) rfl rfl)))))))))))))))))) (iv_si rfl (iv_si rfl (iv_si rfl (iv_si rfl (iv_si rfl (iv_si rfl (iv_si rfl (iv_si rfl (iv_si rfl (iv_si rfl (iv_si rfl (iv_si rfl (iv_si rfl (iv_si rfl (iv_si rfl (iv_si rfl (F.2.2.1 16036 0 rfl rfl))))))))))))))))) ?_
      refine x_icge (tgt := 80) rfl rfl (br_t (by decide) ?_)
      refine x_iloadn (x := 0) rfl rfl ?_
      refine x_aloadn (x := 125) rfl rfl ?_
      refine y_getI (v := (-1)) 12 43 rfl f_12_446 rfl (congrArg Prod.fst (sh_si (sh_si (sh_si (sh_si (sh_si (sh_si (sh_si (sh_si (sh_si (sh_si (sh_si (sh_si (sh_si (sh_si (sh_si (sh_si (F.1 125 (12, 92) rfl rfl)))))))))))))))))) (iv_si rfl (iv_si rfl (iv_si rfl (iv_si rfl (iv_si rfl (iv_si rfl (iv_si rfl (iv_si rfl (iv_si rfl (iv_si rfl iv_eq)))))))))) ?_
      refine x_icgt (tgt := 109) rfl rfl (br_t (by decide) ?_)
      refine x_aloadn (x := 125) rfl rfl ?_
      refine x_iloadn (x := 0) rfl rfl ?_
      refine x_putI 12 43 rfl f_12_446 rfl (jfin_no TX12 RX12 92 rfl rfl) (congrArg Prod.fst (sh_si (sh_si (sh_si (sh_si (sh_si (sh_si (sh_si (sh_si (sh_si (sh_si (sh_si (sh_si (sh_si (sh_si (sh_si (sh_si (F.1 125 (12, 92) rfl rfl)))))))))))))))))) rfl ?_
      refine x_aloadn (x := 125) rfl rfl ?_
      refine x_iload (x := 0) rfl rfl ?_
      refine x_putI 12 44 rfl f_12_449 rfl (jfin_no TX12 RX12 92 rfl rfl) (congrArg Prod.fst (sh_si (sh_si (sh_si (sh_si (sh_si (sh_si (sh_si (sh_si (sh_si (sh_si (sh_si (sh_si (sh_si (sh_si (sh_si (sh_si (sh_si (F.1 125 (12, 92) rfl rfl))))))))))))))))))) rfl ?_
      refine x_iconst (v := 0) rfl ki_0 ?_
      refine x_istore (ls' := [(5, .int 0), (4, .int 0), (3, .int 0), (2, .int 1), (0, .ref 125), (1, .int 0)]) rfl rfl rfl ?_
      refine x_iload (x := 0) rfl rfl ?_
      refine x_aloadn (x := 125) rfl rfl ?_
      refine y_getI (v := 0) 12 36 rfl f_12_204 rfl (congrArg Prod.fst (sh_si (sh_si (sh_si (sh_si (sh_si (sh_si (sh_si (sh_si (sh_si (sh_si (sh_si (sh_si (sh_si (sh_si (sh_si (sh_si (sh_si (sh_si (F.1 125 (12, 92) rfl rfl)))))))))))))))))))) (iv_si rfl (iv_si rfl (iv_si rfl (iv_si rfl (iv_si rfl (iv_si rfl (iv_si rfl (iv_si rfl (iv_si rfl (iv_si rfl (iv_si rfl (iv_si rfl (iv_si rfl (iv_si rfl (iv_si rfl (iv_si rfl (iv_si rfl (iv_si rfl (F.2.2.1 16036 0 rfl rfl))))))))))))))))))) ?_
      refine x_icge (tgt := 152) rfl rfl (br_t (by decide) ?_)
      refine x_aloadn (x := 125) rfl rfl ?_
      refine x_inv (N := m_X12_nextGroups) (As := []) (b := 125) (st := []) (d' := 98) (mc := 0) (ms := 0) (host := "") 12 rfl t_X12_nextGroups ⟨Or.inl q_12_459, i_X12_nextGroups.1, i_X12_nextGroups.2⟩ ⟨by decide, rfl⟩ (congrArg Prod.fst (sh_si (sh_si (sh_si (sh_si (sh_si (sh_si (sh_si (sh_si (sh_si (sh_si (sh_si (sh_si (sh_si (sh_si (sh_si (sh_si (sh_si (sh_si (F.1 125 (12, 92) rfl rfl)))))))))))))))))))) rfl (by decide) rfl rfl ⟨by decide, by decide⟩ (jC.of rfl k_X12_nextGroups rfl ?_)
      show jX m_X12_nextGroups 98 0 0 0 [(0, .ref 125)] [] _ 0 0 _
      refine x_aloadn (x := 125) rfl rfl ?_
      refine y_getI (v := 0) 12 36 rfl f_12_204 rfl (congrArg Prod.fst (sh_si (sh_si (sh_si (sh_si (sh_si (sh_si (sh_si (sh_si (sh_si (sh_si (sh_si (sh_si (sh_si (sh_si (sh_si (sh_si (sh_si (sh_si (F.1 125 (12, 92) rfl rfl)))))))))))))))))))) (iv_si rfl (iv_si rfl (iv_si rfl (iv_si rfl (iv_si rfl (iv_si rfl (iv_si rfl (iv_si rfl (iv_si rfl (iv_si rfl (iv_si rfl (iv_si rfl (iv_si rfl (iv_si rfl (iv_si rfl (iv_si rfl (iv_si rfl (iv_si rfl (F.2.2.1 16036 0 rfl rfl))))))))))))))))))) ?_
      refine x_iconst (v := 1) rfl ki_1 ?_
      refine y_isub (v := (-1)) rfl (by decide) ?_
      refine x_istoren (ls' := [(1, .int (-1)), (0, .ref 125)]) rfl rfl rfl ?_
      refine x_iloadn (x := (-1)) rfl rfl ?_
      refine x_ifle (tgt := 100) rfl rfl (br_t (by decide) ?_)
      refine x_iconst (v := 0) rfl ki_0 ?_
      refine x_zret rfl rfl (by first | decide | exact jp_01 _) ?_
      show jX m_X12_findBest 99 0 0 156 [(5, .int 0), (4, .int 0), (3, .int 0), (2, .int 1), (0, .ref 125), (1, .int 0)] [.int 0] _ 0 0 _
      refine x_istoren (ls' := [(2, .int 0), (5, .int 0), (4, .int 0), (3, .int 0), (0, .ref 125), (1, .int 0)]) rfl rfl rfl ?_
      refine x_goto (tgt := 20) rfl rfl ?_
      refine x_iloadn (x := 0) rfl rfl ?_
      refine x_ifeq (tgt := 160) rfl rfl (br_t (by decide) ?_)
      refine x_aloadn (x := 125) rfl rfl ?_
      refine x_iconst (v := 0) rfl ki_0 ?_
      refine x_putI 12 46 rfl f_12_463 rfl (jfin_no TX12 RX12 92 rfl rfl) (congrArg Prod.fst (sh_si (sh_si (sh_si (sh_si (sh_si (sh_si (sh_si (sh_si (sh_si (sh_si (sh_si (sh_si (sh_si (sh_si (sh_si (sh_si (sh_si (sh_si (F.1 125 (12, 92) rfl rfl)))))))))))))))))))) rfl ?_
      refine x_aloadn (x := 125) rfl rfl ?_
      refine x_inv (N := m_X12_firstGroups) (As := []) (b := 125) (st := []) (d' := 98) (mc := 0) (ms := 0) (host := "") 12 rfl t_X12_firstGroups ⟨Or.inl q_12_452, i_X12_firstGroups.1, i_X12_firstGroups.2⟩ ⟨by decide, rfl⟩ (congrArg Prod.fst (sh_si (sh_si (sh_si (sh_si (sh_si (sh_si (sh_si (sh_si (sh_si (sh_si (sh_si (sh_si (sh_si (sh_si (sh_si (sh_si (sh_si (sh_si (sh_si (F.1 125 (12, 92) rfl rfl))))))))))))))))))))) rfl (by decide) rfl rfl ⟨by decide, by decide⟩ (jC.of rfl k_X12_firstGroups rfl ?_)
      show jX m_X12_firstGroups 98 0 0 0 [(0, .ref 125)] [] _ 0 0 _
      refine x_iconst (v := 0) rfl ki_0 ?_
      refine x_istoren (ls' := [(1, .int 0), (0, .ref 125)]) rfl rfl rfl ?_
      refine x_iloadn (x := 0) rfl rfl ?_
      refine x_bipush (v := 9) rfl kb_9 ?_
      refine x_icge (tgt := 21) rfl rfl (br_f (by decide) ?_)
      refine x_aloadn (x := 125) rfl rfl ?_
      refine x_getR (b := 145) 12 41 rfl f_12_90 rfl (congrArg Prod.fst (sh_si (sh_si (sh_si (sh_si (sh_si (sh_si (sh_si (sh_si (sh_si (sh_si (sh_si (sh_si (sh_si (sh_si (sh_si (sh_si (sh_si (sh_si (sh_si (F.1 125 (12, 92) rfl rfl))))))))))))))))))))) (rv_si (rv_si (rv_si (rv_si (rv_si (rv_si (rv_si (rv_si (rv_si (rv_si (rv_si (rv_si (rv_si (rv_si (rv_si (rv_si (rv_si (rv_si (rv_si (F.2.1 16041 145 rfl rfl)))))))))))))))))))) ?_
      refine x_iloadn (x := 0) rfl rfl ?_
      refine x_iconst (v := 0) rfl ki_0 ?_
      refine y_iast (N := 9) 0 rfl (sh_si (sh_si (sh_si (sh_si (sh_si (sh_si (sh_si (sh_si (sh_si (sh_si (sh_si (sh_si (sh_si (sh_si (sh_si (sh_si (sh_si (sh_si (sh_si (F.1 145 (100, 9) rfl rfl)))))))))))))))))))) rfl (jinb_of (by decide)) (by decide) ?_
      refine x_iinc (x := 0) (v := 1) (ls' := [(1, .int 1), (0, .ref 125)]) rfl rfl (by decide) rfl rfl ?_
      refine x_goto (tgt := 2) rfl rfl ?_
      refine x_iloadn (x := 1) rfl rfl ?_
      refine x_bipush (v := 9) rfl kb_9 ?_
      refine x_icge (tgt := 21) rfl rfl (br_f (by decide) ?_)
      refine x_aloadn (x := 125) rfl rfl ?_
      refine x_getR (b := 145) 12 41 rfl f_12_90 rfl (congrArg Prod.fst (sh_si (sh_si (sh_si (sh_si (sh_si (sh_si (sh_si (sh_si (sh_si (sh_si (sh_si (sh_si (sh_si (sh_si (sh_si (sh_si (sh_si (sh_si (sh_si (sh_si (F.1 125 (12, 92) rfl rfl)))))))))))))))))))))) (rv_si (rv_si (rv_si (rv_si (rv_si (rv_si (rv_si (rv_si (rv_si (rv_si (rv_si (rv_si (rv_si (rv_si (rv_si (rv_si (rv_si (rv_si (rv_si (rv_si (F.2.1 16041 145 rfl rfl))))))))))))))))))))) ?_
      refine x_iloadn (x := 1) rfl rfl ?_
      refine x_iconst (v := 0) rfl ki_0 ?_
      refine y_iast (N := 9) 1 rfl (sh_si (sh_si (sh_si (sh_si (sh_si (sh_si (sh_si (sh_si (sh_si (sh_si (sh_si (sh_si (sh_si (sh_si (sh_si (sh_si (sh_si (sh_si (sh_si (sh_si (F.1 145 (100, 9) rfl rfl))))))))))))))))))))) rfl (jinb_of (by decide)) (by decide) ?_
      refine x_iinc (x := 1) (v := 2) (ls' := [(1, .int 2), (0, .ref 125)]) rfl rfl (by decide) rfl rfl ?_
      refine x_goto (tgt := 2) rfl rfl ?_
      refine x_iloadn (x := 2) rfl rfl ?_
      refine x_bipush (v := 9) rfl kb_9 ?_
      refine x_icge (tgt := 21) rfl rfl (br_f (by decide) ?_)
      refine x_aloadn (x := 125) rfl rfl ?_
      refine x_getR (b := 145) 12 41 rfl f_12_90 rfl (congrArg Prod.fst (sh_si (sh_si (sh_si (sh_si (sh_si (sh_si (sh_si (sh_si (sh_si (sh_si (sh_si (sh_si (sh_si (sh_si (sh_si (sh_si (sh_si (sh_si (sh_si (sh_si (sh_si (F.1 125 (12, 92) rfl rfl))))))))))))))))))))))) (rv_si (rv_si (rv_si (rv_si (rv_si (rv_si (rv_si (rv_si (rv_si (rv_si (rv_si (rv_si (rv_si (rv_si (rv_si (rv_si (rv_si (rv_si (rv_si (rv_si (rv_si (F.2.1 16041 145 rfl rfl)))))))))))))))))))))) ?_
      refine x_iloadn (x := 2) rfl rfl ?_
      refine x_iconst (v := 0) rfl ki_0 ?_
      refine y_iast (N := 9) 2 rfl (sh_si (sh_si (sh_si (sh_si (sh_si (sh_si (sh_si (sh_si (sh_si (sh_si (sh_si (sh_si (sh_si (sh_si (sh_si (sh_si (sh_si (sh_si (sh_si (sh_si (sh_si (F.1 145 (100, 9) rfl rfl)))))))))))))))))))))) rfl (jinb_of (by decide)) (by decide) ?_
      refine x_iinc (x := 2) (v := 3) (ls' := [(1, .int 3), (0, .ref 125)]) rfl rfl (by decide) rfl rfl ?_
      refine x_goto (tgt := 2) rfl rfl ?_
      refine x_iloadn (x := 3) rfl rfl ?_
      refine x_bipush (v := 9) rfl kb_9 ?_
      refine x_icge (tgt := 21) rfl rfl (br_f (by decide) ?_)
      refine x_aloadn (x := 125) rfl rfl ?_
      refine x_getR (b := 145) 12 41 rfl f_12_90 rfl (congrArg Prod.fst (sh_si (sh_si (sh_si (sh_si (sh_si (sh_si (sh_si (sh_si (sh_si (sh_si (sh_si (sh_si (sh_si (sh_si (sh_si (sh_si (sh_si (sh_si (sh_si (sh_si (sh_si (sh_si (F.1 125 (12, 92) rfl rfl)))))))))))))))))))))))) (rv_si (rv_si (rv_si (rv_si (rv_si (rv_si (rv_si (rv_si (rv_si (rv_si (rv_si (rv_si (rv_si (rv_si (rv_si (rv_si (rv_si (rv_si (rv_si (rv_si (rv_si (rv_si (F.2.1 16041 145 rfl rfl))))))))))))))))))))))) ?_
      refine x_iloadn (x := 3) rfl rfl ?_
      refine x_iconst (v := 0) rfl ki_0 ?_
      refine y_iast (N := 9) 3 rfl (sh_si (sh_si (sh_si (sh_si (sh_si (sh_si (sh_si (sh_si (sh_si (sh_si (sh_si (sh_si (sh_si (sh_si (sh_si (sh_si (sh_si (sh_si (sh_si (sh_si (sh_si (sh_si (F.1 145 (100, 9) rfl rfl))))))))))))))))))))))) rfl (jinb_of (by decide)) (by decide) ?_
      refine x_iinc (x := 3) (v := 4) (ls' := [(1, .int 4), (0, .ref 125)]) rfl rfl (by decide) rfl rfl ?_
      refine x_goto (tgt := 2) rfl rfl ?_
      refine x_iloadn (x := 4) rfl rfl ?_
      refine x_bipush (v := 9) rfl kb_9 ?_
      refine x_icge (tgt := 21) rfl rfl (br_f (by decide) ?_)
      refine x_aloadn (x := 125) rfl rfl ?_
      refine x_getR (b := 145) 12 41 rfl f_12_90 rfl (congrArg Prod.fst (sh_si (sh_si (sh_si (sh_si (sh_si (sh_si (sh_si (sh_si (sh_si (sh_si (sh_si (sh_si (sh_si (sh_si (sh_si (sh_si (sh_si (sh_si (sh_si (sh_si (sh_si (sh_si (sh_si (F.1 125 (12, 92) rfl rfl))))))))))))))))))))))))) (rv_si (rv_si (rv_si (rv_si (rv_si (rv_si (rv_si (rv_si (rv_si (rv_si (rv_si (rv_si (rv_si (rv_si (rv_si (rv_si (rv_si (rv_si (rv_si (rv_si (rv_si (rv_si (rv_si (F.2.1 16041 145 rfl rfl)))))))))))))))))))))))) ?_
      refine x_iloadn (x := 4) rfl rfl ?_
      refine x_iconst (v := 0) rfl ki_0 ?_
      refine y_iast (N := 9) 4 rfl (sh_si (sh_si (sh_si (sh_si (sh_si (sh_si (sh_si (sh_si (sh_si (sh_si (sh_si (sh_si (sh_si (sh_si (sh_si (sh_si (sh_si (sh_si (sh_si (sh_si (sh_si (sh_si (sh_si (F.1 145 (100, 9) rfl rfl)))))))))))))))))))))))) rfl (jinb_of (by decide)) (by decide) ?_
      refine x_iinc (x := 4) (v := 5) (ls' := [(1, .int 5), (0, .ref 125)]) rfl rfl (by decide) rfl rfl ?_
      refine x_goto (tgt := 2) rfl rfl ?_
      refine x_iloadn (x := 5) rfl rfl ?_
      refine x_bipush (v := 9) rfl kb_9 ?_
      refine x_icge (tgt := 21) rfl rfl (br_f (by decide) ?_)
      refine x_aloadn (x := 125) rfl rfl ?_
      refine x_getR (b := 145) 12 41 rfl f_12_90 rfl (congrArg Prod.fst (sh_si (sh_si (sh_si (sh_si (sh_si (sh_si (sh_si (sh_si (sh_si (sh_si (sh_si (sh_si (sh_si (sh_si (sh_si (sh_si (sh_si (sh_si (sh_si (sh_si (sh_si (sh_si (sh_si (sh_si (F.1 125 (12, 92) rfl rfl)))))))))))))))))))))))))) (rv_si (rv_si (rv_si (rv_si (rv_si (rv_si (rv_si (rv_si (rv_si (rv_si (rv_si (rv_si (rv_si (rv_si (rv_si (rv_si (rv_si (rv_si (rv_si (rv_si (rv_si (rv_si (rv_si (rv_si (F.2.1 16041 145 rfl rfl))))))))))))))))))))))))) ?_
      refine x_iloadn (x := 5) rfl rfl ?_
      refine x_iconst (v := 0) rfl ki_0 ?_
      refine y_iast (N := 9) 5 rfl (sh_si (sh_si (sh_si (sh_si (sh_si (sh_si (sh_si (sh_si (sh_si (sh_si (sh_si (sh_si (sh_si (sh_si (sh_si (sh_si (sh_si (sh_si (sh_si (sh_si (sh_si (sh_si (sh_si (sh_si (F.1 145 (100, 9) rfl rfl))))))))))))))))))))))))) rfl (jinb_of (by decide)) (by decide) ?_
      refine x_iinc (x := 5) (v := 6) (ls' := [(1, .int 6), (0, .ref 125)]) rfl rfl (by decide) rfl rfl ?_
      refine x_goto (tgt := 2) rfl rfl ?_
      refine x_iloadn (x := 6) rfl rfl ?_
      refine x_bipush (v := 9) rfl kb_9 ?_
      refine x_icge (tgt := 21) rfl rfl (br_f (by decide) ?_)
      refine x_aloadn (x := 125) rfl rfl ?_
      refine x_getR (b := 145) 12 41 rfl f_12_90 rfl (congrArg Prod.fst (sh_si (sh_si (sh_si (sh_si (sh_si (sh_si (sh_si (sh_si (sh_si (sh_si (sh_si (sh_si (sh_si (sh_si (sh_si (sh_si (sh_si (sh_si (sh_si (sh_si (sh_si (sh_si (sh_si (sh_si (sh_si (F.1 125 (12, 92) rfl rfl))))))))))))))))))))))))))) (rv_si (rv_si (rv_si (rv_si (rv_si (rv_si (rv_si (rv_si (rv_si (rv_si (rv_si (rv_si (rv_si (rv_si (rv_si (rv_si (rv_si (rv_si (rv_si (rv_si (rv_si (rv_si (rv_si (rv_si (rv_si (F.2.1 16041 145 rfl rfl)))))))))))))))))))))))))) ?_
      refine x_iloadn (x := 6) rfl rfl ?_
      refine x_iconst (v := 0) rfl ki_0 ?_
      refine y_iast (N := 9) 6 rfl (sh_si (sh_si (sh_si (sh_si (sh_si (sh_si (sh_si (sh_si (sh_si (sh_si (sh_si (sh_si (sh_si (sh_si (sh_si (sh_si (sh_si (sh_si (sh_si (sh_si (sh_si (sh_si (sh_si (sh_si (sh_si (F.1 145 (100, 9) rfl rfl)))))))))))))))))))))))))) rfl (jinb_of (by decide)) (by decide) ?_
      refine x_iinc (x := 6) (v := 7) (ls' := [(1, .int 7), (0, .ref 125)]) rfl rfl (by decide) rfl rfl ?_
      refine x_goto (tgt := 2) rfl rfl ?_
      refine x_iloadn (x := 7) rfl rfl ?_
      refine x_bipush (v := 9) rfl kb_9 ?_
      refine x_icge (tgt := 21) rfl rfl (br_f (by decide) ?_)
      refine x_aloadn (x := 125) rfl rfl ?_
      refine x_getR (b := 145) 12 41 rfl f_12_90 rfl (congrArg Prod.fst (sh_si (sh_si (sh_si (sh_si (sh_si (sh_si (sh_si (sh_si (sh_si (sh_si (sh_si (sh_si (sh_si (sh_si (sh_si (sh_si (sh_si (sh_si (sh_si (sh_si (sh_si (sh_si (sh_si (sh_si (sh_si (sh_si (F.1 125 (12, 92) rfl rfl)))))))))))))))))))))))))))) (rv_si (rv_si (rv_si (rv_si (rv_si (rv_si (rv_si (rv_si (rv_si (rv_si (rv_si (rv_si (rv_si (rv_si (rv_si (rv_si (rv_si (rv_si (rv_si (rv_si (rv_si (rv_si (rv_si (rv_si (rv_si (rv_si (F.2.1 16041 145 rfl rfl))))))))))))))))))))))))))) ?_
      refine x_iloadn (x := 7) rfl rfl ?_
      refine x_iconst (v := 0) rfl ki_0 ?_
      refine y_iast (N := 9) 7 rfl (sh_si (sh_si (sh_si (sh_si (sh_si (sh_si (sh_si (sh_si (sh_si (sh_si (sh_si (sh_si (sh_si (sh_si (sh_si (sh_si (sh_si (sh_si (sh_si (sh_si (sh_si (sh_si (sh_si (sh_si (sh_si (sh_si (F.1 145 (100, 9) rfl rfl))))))))))))))))))))))))))) rfl (jinb_of (by decide)) (by decide) ?_
      refine x_iinc (x := 7) (v := 8) (ls' := [(1, .int 8), (0, .ref 125)]) rfl rfl (by decide) rfl rfl ?_
      refine x_goto (tgt := 2) rfl rfl ?_
      refine x_iloadn (x := 8) rfl rfl ?_
      refine x_bipush (v := 9) rfl kb_9 ?_
      refine x_icge (tgt := 21) rfl rfl (br_f (by decide) ?_)
      refine x_aloadn (x := 125) rfl rfl ?_
      refine x_getR (b := 145) 12 41 rfl f_12_90 rfl (congrArg Prod.fst (sh_si (sh_si (sh_si (sh_si (sh_si (sh_si (sh_si (sh_si (sh_si (sh_si (sh_si (sh_si (sh_si (sh_si (sh_si (sh_si (sh_si (sh_si (sh_si (sh_si (sh_si (sh_si (sh_si (sh_si (sh_si (sh_si (sh_si (F.1 125 (12, 92) rfl rfl))))))))))))))))))))))))))))) (rv_si (rv_si (rv_si (rv_si (rv_si (rv_si (rv_si (rv_si (rv_si (rv_si (rv_si (rv_si (rv_si (rv_si (rv_si (rv_si (rv_si (rv_si (rv_si (rv_si (rv_si (rv_si (rv_si (rv_si (rv_si (rv_si (rv_si (F.2.1 16041 145 rfl rfl)))))))))))))))))))))))))))) ?_
      refine x_iloadn (x := 8) rfl rfl ?_
      refine x_iconst (v := 0) rfl ki_0 ?_
      refine y_iast (N := 9) 8 rfl (sh_si (sh_si (sh_si (sh_si (sh_si (sh_si (sh_si (sh_si (sh_si (sh_si (sh_si (sh_si (sh_si (sh_si (sh_si (sh_si (sh_si (sh_si (sh_si (sh_si (sh_si (sh_si (sh_si (sh_si (sh_si (sh_si (sh_si (F.1 145 (100, 9) rfl rfl)))))))))))))))))))))))))))) rfl (jinb_of (by decide)) (by decide) ?_
      refine x_iinc (x := 8) (v := 9) (ls' := [(1, .int 9), (0, .ref 125)]) rfl rfl (by decide) rfl rfl ?_
      refine x_goto (tgt := 2) rfl rfl ?_
      refine x_iloadn (x := 9) rfl rfl ?_
      refine x_bipush (v := 9) rfl kb_9 ?_
      refine x_icge (tgt := 21) rfl rfl (br_t (by decide) ?_)
      refine x_vret rfl rfl ?_
      show jX m_X12_findBest 99 0 0 169 [(2, .int 0), (5, .int 0), (4, .int 0), (3, .int 0), (0, .ref 125), (1, .int 0)] [] _ 0 0 _
      refine x_iconst (v := 1) rfl ki_1 ?_
      refine x_istoren (ls' := [(2, .int 1), (5, .int 0), (4, .int 0), (3, .int 0), (0, .ref 125), (1, .int 0)]) rfl rfl rfl ?_
      refine x_iloadn (x := 1) rfl rfl ?_
      refine x_ifeq (tgt := 216) rfl rfl (br_f (by decide) ?_)
      refine x_aloadn (x := 125) rfl rfl ?_
      refine x_inv (N := m_X12_groupsWorth) (As := []) (b := 125) (st := []) (d' := 98) (mc := 0) (ms := 0) (host := "") 12 rfl t_X12_groupsWorth ⟨Or.inl q_12_455, i_X12_groupsWorth.1, i_X12_groupsWorth.2⟩ ⟨by decide, rfl⟩ (congrArg Prod.fst (sh_si (sh_si (sh_si (sh_si (sh_si (sh_si (sh_si (sh_si (sh_si (sh_si (sh_si (sh_si (sh_si (sh_si (sh_si (sh_si (sh_si (sh_si (sh_si (sh_si (sh_si (sh_si (sh_si (sh_si (sh_si (sh_si (sh_si (sh_si (F.1 125 (12, 92) rfl rfl)))))))))))))))))))))))))))))) rfl (by decide) rfl rfl ⟨by decide, by decide⟩ (jC.of rfl k_X12_groupsWorth rfl ?_)
      show jX m_X12_groupsWorth 98 0 0 0 [(0, .ref 125)] [] _ 0 0 _
      refine x_iconst (v := 0) rfl ki_0 ?_
      refine x_istoren (ls' := [(1, .int 0), (0, .ref 125)]) rfl rfl rfl ?_
      refine x_iconst (v := 1) rfl ki_1 ?_
      refine x_istoren (ls' := [(2, .int 1), (1, .int 0), (0, .ref 125)]) rfl rfl rfl ?_
      refine x_iconst (v := 0) rfl ki_0 ?_
      refine x_istoren (ls' := [(3, .int 0), (2, .int 1), (1, .int 0), (0, .ref 125)]) rfl rfl rfl ?_
      refine x_iloadn (x := 0) rfl rfl ?_
      refine x_aloadn (x := 125) rfl rfl ?_
      refine y_getI (v := 0) 12 36 rfl f_12_204 rfl (congrArg Prod.fst (sh_si (sh_si (sh_si (sh_si (sh_si (sh_si (sh_si (sh_si (sh_si (sh_si (sh_si (sh_si (sh_si (sh_si (sh_si (sh_si (sh_si (sh_si (sh_si (sh_si (sh_si (sh_si (sh_si (sh_si (sh_si (sh_si (sh_si (sh_si (F.1 125 (12, 92) rfl rfl)))))))))))))))))))))))))))))) (iv_si rfl (iv_si rfl (iv_si rfl (iv_si rfl (iv_si rfl (iv_si rfl (iv_si rfl (iv_si rfl (iv_si rfl (iv_si rfl (iv_si rfl (iv_si rfl (iv_si rfl (iv_si rfl (iv_si rfl (iv_si rfl (iv_si rfl (iv_si rfl (iv_si rfl (iv_si rfl (iv_si rfl (iv_si rfl (iv_si rfl (iv_si rfl (iv_si rfl (iv_si rfl (iv_si rfl (iv_si rfl (F.2.2.1 16036 0 rfl rfl))))))))))))))))))))))))))))) ?_
      refine x_icge (tgt := 130) rfl rfl (br_t (by decide) ?_)
      refine x_iloadn (x := 1) rfl rfl ?_
      refine x_ifeq (tgt := 138) rfl rfl (br_f (by decide) ?_)
      refine x_iloadn (x := 0) rfl rfl ?_
      refine x_goto (tgt := 139) rfl rfl ?_
      refine x_iret rfl rfl ?_
      show jX m_X12_findBest 99 0 0 179 [(2, .int 1), (5, .int 0), (4, .int 0), (3, .int 0), (0, .ref 125), (1, .int 0)] [.int 0] _ 0 0 _
      refine x_istoren (ls' := [(3, .int 0), (2, .int 1), (5, .int 0), (4, .int 0), (0, .ref 125), (1, .int 0)]) rfl rfl rfl ?_
      refine x_aloadn (x := 125) rfl rfl ?_
      refine x_dup rfl rfl ?_
      refine y_getI (v := 0) 12 46 rfl f_12_463 rfl (congrArg Prod.fst (sh_si (sh_si (sh_si (sh_si (sh_si (sh_si (sh_si (sh_si (sh_si (sh_si (sh_si (sh_si (sh_si (sh_si (sh_si (sh_si (sh_si (sh_si (sh_si (sh_si (sh_si (sh_si (sh_si (sh_si (sh_si (sh_si (sh_si (sh_si (F.1 125 (12, 92) rfl rfl)))))))))))))))))))))))))))))) (iv_si rfl (iv_si rfl (iv_si rfl (iv_si rfl (iv_si rfl (iv_si rfl (iv_si rfl (iv_si rfl (iv_si rfl iv_eq))))))))) ?_
      refine x_iloadn (x := 0) rfl rfl ?_
      refine x_iflt (tgt := 203) rfl rfl (br_f (by decide) ?_)
      refine x_iloadn (x := 0) rfl rfl ?_
      refine x_aloadn (x := 125) rfl rfl ?_
      refine y_getI (v := 0) 12 43 rfl f_12_446 rfl (congrArg Prod.fst (sh_si (sh_si (sh_si (sh_si (sh_si (sh_si (sh_si (sh_si (sh_si (sh_si (sh_si (sh_si (sh_si (sh_si (sh_si (sh_si (sh_si (sh_si (sh_si (sh_si (sh_si (sh_si (sh_si (sh_si (sh_si (sh_si (sh_si (sh_si (F.1 125 (12, 92) rfl rfl)))))))))))))))))))))))))))))) (iv_si rfl (iv_si rfl (iv_si rfl (iv_si rfl (iv_si rfl (iv_si rfl (iv_si rfl (iv_si rfl (iv_si rfl (iv_si rfl (iv_si rfl iv_eq))))))))))) ?_
      refine x_iloadn (x := 0) rfl rfl ?_
      refine y_isub (v := 0) rfl (by decide) ?_
      refine x_iclt (tgt := 203) rfl rfl (br_f (by decide) ?_)
      refine x_iconst (v := 1) rfl ki_1 ?_
      refine x_goto (tgt := 204) rfl rfl ?_
      refine y_iadd (v := 1) rfl (by decide) ?_
      refine x_putI 12 46 rfl f_12_463 rfl (jfin_no TX12 RX12 92 rfl rfl) (congrArg Prod.fst (sh_si (sh_si (sh_si (sh_si (sh_si (sh_si (sh_si (sh_si (sh_si (sh_si (sh_si (sh_si (sh_si (sh_si (sh_si (sh_si (sh_si (sh_si (sh_si (sh_si (sh_si (sh_si (sh_si (sh_si (sh_si (sh_si (sh_si (sh_si (F.1 125 (12, 92) rfl rfl)))))))))))))))))))))))))))))) rfl ?_
      refine x_aloadn (x := 125) rfl rfl ?_
      refine x_inv (N := m_X12_nextGroups) (As := []) (b := 125) (st := []) (d' := 98) (mc := 0) (ms := 0) (host := "") 12 rfl t_X12_nextGroups ⟨Or.inl q_12_459, i_X12_nextGroups.1, i_X12_nextGroups.2⟩ ⟨by decide, rfl⟩ (congrArg Prod.fst (sh_si (sh_si (sh_si (sh_si (sh_si (sh_si (sh_si (sh_si (sh_si (sh_si (sh_si (sh_si (sh_si (sh_si (sh_si (sh_si (sh_si (sh_si (sh_si (sh_si (sh_si (sh_si (sh_si (sh_si (sh_si (sh_si (sh_si (sh_si (sh_si (F.1 125 (12, 92) rfl rfl))))))))))))))))))))))))))))))) rfl (by decide) rfl rfl ⟨by decide, by decide⟩ (jC.of rfl k_X12_nextGroups rfl ?_)
      show jX m_X12_nextGroups 98 0 0 0 [(0, .ref 125)] [] _ 0 0 _
      refine x_aloadn (x := 125) rfl rfl ?_
      refine y_getI (v := 0) 12 36 rfl f_12_204 rfl (congrArg Prod.fst (sh_si (sh_si (sh_si (sh_si (sh_si (sh_si (sh_si (sh_si (sh_si (sh_si (sh_si (sh_si (sh_si (sh_si (sh_si (sh_si (sh_si (sh_si (sh_si (sh_si (sh_si (sh_si (sh_si (sh_si (sh_si (sh_si (sh_si (sh_si (sh_si (F.1 125 (12, 92) rfl rfl))))))))))))))))))))))))))))))) (iv_si rfl (iv_si rfl (iv_si rfl (iv_si rfl (iv_si rfl (iv_si rfl (iv_si rfl (iv_si rfl (iv_si rfl (iv_si rfl (iv_si rfl (iv_si rfl (iv_si rfl (iv_si rfl (iv_si rfl (iv_si rfl (iv_si rfl (iv_si rfl (iv_si rfl (iv_si rfl (iv_si rfl (iv_si rfl (iv_si rfl (iv_si rfl (iv_si rfl (iv_si rfl (iv_si rfl (iv_si rfl (iv_si rfl (F.2.2.1 16036 0 rfl rfl)))))))))))))))))))))))))))))) ?_
      refine x_iconst (v := 1) rfl ki_1 ?_
      refine y_isub (v := (-1)) rfl (by decide) ?_
      refine x_istoren (ls' := [(1, .int (-1)), (0, .ref 125)]) rfl rfl rfl ?_
      refine x_iloadn (x := (-1)) rfl rfl ?_
      refine x_ifle (tgt := 100) rfl rfl (br_t (by decide) ?_)
      refine x_iconst (v := 0) rfl ki_0 ?_
      refine x_zret rfl rfl (by first | decide | exact jp_01 _) ?_
      show jX m_X12_findBest 99 0 0 212 [(3, .int 0), (2, .int 1), (5, .int 0), (4, .int 0), (0, .ref 125), (1, .int 0)] [.int 0] _ 0 0 _
      refine x_istoren (ls' := [(2, .int 0), (3, .int 0), (5, .int 0), (4, .int 0), (0, .ref 125), (1, .int 0)]) rfl rfl rfl ?_
      refine x_goto (tgt := 171) rfl rfl ?_
      refine x_iloadn (x := 0) rfl rfl ?_
      refine x_ifeq (tgt := 216) rfl rfl (br_t (by decide) ?_)
      refine x_vret rfl rfl ?_
      show jX m_X12_best 100 0 0 50 [(0, .ref 125), (1, .int a1), (2, .int a2)] [] _ 0 0 _
      refine x_iloadn (x := a1) rfl rfl ?_
      refine x_ifne (tgt := 61) rfl rfl (ti_ne (show (a1 : Int32).toInt = a1.toInt from rfl) (show (0 : Int32).toInt = 0 by decide) ⟨fun c3 => ?_, fun c3 => ?_⟩)
      ·
        refine x_iloadn (x := a1) rfl rfl ?_
        refine x_iconst (v := 1) rfl ki_1 ?_
        refine x_icne (tgt := 73) rfl rfl (ti_ne (show (a1 : Int32).toInt = a1.toInt from rfl) (show (1 : Int32).toInt = 1 by decide) ⟨fun c4 => ?_, fun c4 => ?_⟩)
        ·
          refine x_iloadn (x := a1) rfl rfl ?_
          refine x_iconst (v := 2) rfl ki_2 ?_
          refine x_icne (tgt := 85) rfl rfl (ti_ne (show (a1 : Int32).toInt = a1.toInt from rfl) (show (2 : Int32).toInt = 2 by decide) ⟨fun c5 => ?_, fun c5 => ?_⟩)
          ·
            exfalso
            omega
          ·
            refine x_aloadn (x := 125) rfl rfl ?_
            refine y_getI (v := 0) 12 45 rfl f_12_440 rfl (congrArg Prod.fst (sh_si (sh_si (sh_si (sh_si (sh_si (sh_si (sh_si (sh_si (sh_si (sh_si (sh_si (sh_si (sh_si (sh_si (sh_si (sh_si (sh_si (sh_si (sh_si (sh_si (sh_si (sh_si (sh_si (sh_si (sh_si (sh_si (sh_si (sh_si (sh_si (F.1 125 (12, 92) rfl rfl))))))))))))))))))))))))))))))) (iv_si rfl (iv_si rfl (iv_si rfl (iv_si rfl (iv_si rfl (iv_si rfl (iv_si rfl (iv_si rfl (iv_si rfl (iv_si rfl (iv_si rfl (iv_si rfl (iv_si rfl (iv_si rfl (iv_si rfl (iv_si rfl (iv_si rfl (iv_si rfl (iv_si rfl (iv_si rfl (iv_si rfl (iv_si rfl (iv_si rfl (iv_si rfl iv_eq)))))))))))))))))))))))) ?_
            refine x_goto (tgt := 89) rfl rfl ?_
            refine x_iret rfl rfl ?_
            exact jqe (show sp_best a1 a2 = 0 by unfold sp_best; (repeat' split) <;> first | rfl | (exfalso; omega)) (hQ _ (jOl_si rfl (jOl_si rfl (jOl_si rfl (jOl_si rfl (jOl_si rfl (jOl_si rfl (jOl_si rfl (jOl_si rfl (jOl_si rfl (jOl_si rfl (jOl_si rfl (jOl_si rfl (jOl_si rfl (jOl_si rfl (jOl_si rfl (jOl_si rfl (jOl_si rfl (jOl_si rfl (jOl_si rfl (jOl_si rfl (jOl_si rfl (jOl_si rfl (jOl_si rfl (jOl_si rfl (jOl_si rfl (jOl_si rfl (jOl_si rfl (jOl_si rfl (jOl_si rfl O))))))))))))))))))))))))))))))
        ·
          refine x_aloadn (x := 125) rfl rfl ?_
          refine y_getI (v := 0) 12 44 rfl f_12_449 rfl (congrArg Prod.fst (sh_si (sh_si (sh_si (sh_si (sh_si (sh_si (sh_si (sh_si (sh_si (sh_si (sh_si (sh_si (sh_si (sh_si (sh_si (sh_si (sh_si (sh_si (sh_si (sh_si (sh_si (sh_si (sh_si (sh_si (sh_si (sh_si (sh_si (sh_si (sh_si (F.1 125 (12, 92) rfl rfl))))))))))))))))))))))))))))))) (iv_si rfl (iv_si rfl (iv_si rfl (iv_si rfl (iv_si rfl (iv_si rfl (iv_si rfl (iv_si rfl (iv_si rfl (iv_si rfl (iv_si rfl iv_eq))))))))))) ?_
          refine x_goto (tgt := 89) rfl rfl ?_
          refine x_iret rfl rfl ?_
          exact jqe (show sp_best a1 a2 = 0 by unfold sp_best; (repeat' split) <;> first | rfl | (exfalso; omega)) (hQ _ (jOl_si rfl (jOl_si rfl (jOl_si rfl (jOl_si rfl (jOl_si rfl (jOl_si rfl (jOl_si rfl (jOl_si rfl (jOl_si rfl (jOl_si rfl (jOl_si rfl (jOl_si rfl (jOl_si rfl (jOl_si rfl (jOl_si rfl (jOl_si rfl (jOl_si rfl (jOl_si rfl (jOl_si rfl (jOl_si rfl (jOl_si rfl (jOl_si rfl (jOl_si rfl (jOl_si rfl (jOl_si rfl (jOl_si rfl (jOl_si rfl (jOl_si rfl (jOl_si rfl O))))))))))))))))))))))))))))))
      ·
        refine x_aloadn (x := 125) rfl rfl ?_
        refine y_getI (v := 0) 12 43 rfl f_12_446 rfl (congrArg Prod.fst (sh_si (sh_si (sh_si (sh_si (sh_si (sh_si (sh_si (sh_si (sh_si (sh_si (sh_si (sh_si (sh_si (sh_si (sh_si (sh_si (sh_si (sh_si (sh_si (sh_si (sh_si (sh_si (sh_si (sh_si (sh_si (sh_si (sh_si (sh_si (sh_si (F.1 125 (12, 92) rfl rfl))))))))))))))))))))))))))))))) (iv_si rfl (iv_si rfl (iv_si rfl (iv_si rfl (iv_si rfl (iv_si rfl (iv_si rfl (iv_si rfl (iv_si rfl (iv_si rfl (iv_si rfl (iv_si rfl iv_eq)))))))))))) ?_
        refine x_goto (tgt := 89) rfl rfl ?_
        refine x_iret rfl rfl ?_
        exact jqe (show sp_best a1 a2 = 0 by unfold sp_best; (repeat' split) <;> first | rfl | (exfalso; omega)) (hQ _ (jOl_si rfl (jOl_si rfl (jOl_si rfl (jOl_si rfl (jOl_si rfl (jOl_si rfl (jOl_si rfl (jOl_si rfl (jOl_si rfl (jOl_si rfl (jOl_si rfl (jOl_si rfl (jOl_si rfl (jOl_si rfl (jOl_si rfl (jOl_si rfl (jOl_si rfl (jOl_si rfl (jOl_si rfl (jOl_si rfl (jOl_si rfl (jOl_si rfl (jOl_si rfl (jOl_si rfl (jOl_si rfl (jOl_si rfl (jOl_si rfl (jOl_si rfl (jOl_si rfl O))))))))))))))))))))))))))))))
    ·
      refine x_iloadn (x := a2) rfl rfl ?_
      refine x_i2l rfl ?_
      refine x_lconst (v := 0) rfl kl_0 ?_
      refine x_ldc2 (v := 1000) rfl z_12_466 ?_
      refine x_inst (N := m_X12_in) (As := [.long (a2.toInt64), .long 0, .long 1000]) (st := []) (d' := 99) (mc := 0) (ms := 0) (host := "") rfl t_X12_in ⟨Or.inl q_12_188, s_X12_in⟩ rfl (by decide) rfl rfl ⟨by decide, by decide⟩ (c_X12_in (m := a2.toInt) (a := 0) (b := 1000) (jt_l _) (by decide) (by decide) ?_)
      show jX m_X12_best 100 0 0 31 [(0, .ref 125), (1, .int a1), (2, .int a2)] [.int (jp (0 ≤ a2.toInt ∧ a2.toInt ≤ 1000))] _ 0 0 _
      refine x_ifne (tgt := 36) rfl rfl (jpn ⟨fun c6 => ?_, fun c6 => ?_⟩)
      ·
        refine x_aloadn (x := 125) rfl rfl ?_
        refine x_iloadn (x := a1) rfl rfl ?_
        refine x_iconst (v := 3) rfl ki_3 ?_
        refine x_icne (tgt := 46) rfl rfl (ti_ne (show (a1 : Int32).toInt = a1.toInt from rfl) (show (3 : Int32).toInt = 3 by decide) (bn_f c2 ?_))
        refine x_iloadn (x := a2) rfl rfl ?_
        refine x_goto (tgt := 47) rfl rfl ?_
        refine x_inv (N := m_X12_findBest) (As := [.int a2]) (b := 125) (st := []) (d' := 99) (mc := 0) (ms := 0) (host := "") 12 rfl t_X12_findBest ⟨Or.inl q_12_468, i_X12_findBest.1, i_X12_findBest.2⟩ ⟨by decide, rfl⟩ (congrArg Prod.fst (sh_si (F.1 125 (12, 92) rfl rfl))) rfl (by decide) rfl rfl ⟨by decide, by decide⟩ (jC.of rfl k_X12_findBest rfl ?_)
        show jX m_X12_findBest 99 0 0 0 [(0, .ref 125), (1, .int a2)] [] _ 0 0 _
        refine x_aloadn (x := 125) rfl rfl ?_
        refine x_inv (N := m_X12_weigh) (As := []) (b := 125) (st := []) (d' := 98) (mc := 0) (ms := 0) (host := "") 12 rfl t_X12_weigh ⟨Or.inl q_12_443, i_X12_weigh.1, i_X12_weigh.2⟩ ⟨by decide, rfl⟩ (congrArg Prod.fst (sh_si (F.1 125 (12, 92) rfl rfl))) rfl (by decide) rfl rfl ⟨by decide, by decide⟩ (jC.of rfl k_X12_weigh rfl ?_)
        show jX m_X12_weigh 98 0 0 0 [(0, .ref 125)] [] _ 0 0 _
        refine x_aloadn (x := 125) rfl rfl ?_
        refine x_ldcw (v := 146399) rfl z_12_392 ?_
        refine x_inv (N := m_X12_find) (As := [.int 146399]) (b := 125) (st := []) (d' := 97) (mc := 0) (ms := 0) (host := "") 12 rfl t_X12_find ⟨Or.inl q_12_393, i_X12_find.1, i_X12_find.2⟩ ⟨by decide, rfl⟩ (congrArg Prod.fst (sh_si (F.1 125 (12, 92) rfl rfl))) rfl (by decide) rfl rfl ⟨by decide, by decide⟩ (jC.of rfl k_X12_find rfl ?_)
        show jX m_X12_find 97 0 0 0 [(0, .ref 125), (1, .int 146399)] [] _ 0 0 _
        refine x_aloadn (x := 125) rfl rfl ?_
        refine x_iloadn (x := 146399) rfl rfl ?_
        refine x_putI 12 28 rfl f_12_377 rfl (jfin_no TX12 RX12 92 rfl rfl) (congrArg Prod.fst (sh_si (F.1 125 (12, 92) rfl rfl))) rfl ?_
        refine x_aloadn (x := 125) rfl rfl ?_
        refine x_iconst (v := 0) rfl ki_0 ?_
        refine x_putI 12 31 rfl f_12_380 rfl (jfin_no TX12 RX12 92 rfl rfl) (congrArg Prod.fst (sh_si (sh_si (F.1 125 (12, 92) rfl rfl)))) rfl ?_
        refine x_aloadn (x := 125) rfl rfl ?_
        refine x_iconst (v := (-1)) rfl ki_m1 ?_
        refine x_putI 12 57 rfl f_12_111 rfl (jfin_no TX12 RX12 92 rfl rfl) (congrArg Prod.fst (sh_si (sh_si (sh_si (F.1 125 (12, 92) rfl rfl))))) rfl ?_
        refine x_iconst (v := 0) rfl ki_0 ?_
        refine x_istoren (ls' := [(2, .int 0), (0, .ref 125), (1, .int 146399)]) rfl rfl rfl ?_
        refine x_iloadn (x := 0) rfl rfl ?_
        refine x_iconst (v := 3) rfl ki_3 ?_
        refine x_aloadn (x := 125) rfl rfl ?_
        refine x_getR (b := 126) 12 2 rfl f_12_8 rfl (congrArg Prod.fst (sh_si (sh_si (sh_si (sh_si (F.1 125 (12, 92) rfl rfl)))))) (rv_si (rv_si (rv_si (rv_si (F.2.1 16002 126 rfl rfl))))) ?_
        refine x_iconst (v := 0) rfl ki_0 ?_
        refine y_iald (v := 0) (N := 50660) 0 rfl (sh_si (sh_si (sh_si (sh_si (F.1 126 (100, 50660) rfl rfl))))) (jinb_of (by decide)) (by decide) (iv_si rfl (iv_si rfl (iv_si rfl (iv_si rfl (F.2.2.2.1 126 rfl rfl 0).1)))) ?_
        refine y_imul (v := 0) rfl (by decide) ?_
        refine x_icge (tgt := 65) rfl rfl (br_t (by decide) ?_)
        refine x_iconst (v := 0) rfl ki_0 ?_
        refine x_istoren (ls' := [(2, .int 0), (0, .ref 125), (1, .int 146399)]) rfl rfl rfl ?_
        refine x_iloadn (x := 0) rfl rfl ?_
        refine x_aloadn (x := 125) rfl rfl ?_
        refine x_getR (b := 126) 12 2 rfl f_12_8 rfl (congrArg Prod.fst (sh_si (sh_si (sh_si (sh_si (F.1 125 (12, 92) rfl rfl)))))) (rv_si (rv_si (rv_si (rv_si (F.2.1 16002 126 rfl rfl))))) ?_
        refine x_iconst (v := 2) rfl ki_2 ?_
        refine y_iald (v := 0) (N := 50660) 2 rfl (sh_si (sh_si (sh_si (sh_si (F.1 126 (100, 50660) rfl rfl))))) (jinb_of (by decide)) (by decide) (iv_si rfl (iv_si rfl (iv_si rfl (iv_si rfl (F.2.2.2.1 126 rfl rfl 2).1)))) ?_
        refine x_icge (tgt := 227) rfl rfl (br_t (by decide) ?_)
        refine x_vret rfl rfl ?_
        show jX m_X12_weigh 98 0 0 7 [(0, .ref 125)] [] _ 0 0 _
        refine x_aloadn (x := 125) rfl rfl ?_
        refine x_iconst (v := 0) rfl ki_0 ?_
        refine x_putI 12 45 rfl f_12_440 rfl (jfin_no TX12 RX12 92 rfl rfl) (congrArg Prod.fst (sh_si (sh_si (sh_si (sh_si (F.1 125 (12, 92) rfl rfl)))))) rfl ?_
        refine x_iconst (v := 0) rfl ki_0 ?_
        refine x_istoren (ls' := [(1, .int 0), (0, .ref 125)]) rfl rfl rfl ?_
        refine x_iloadn (x := 0) rfl rfl ?_
        refine x_aloadn (x := 125) rfl rfl ?_
        refine y_getI (v := 0) 12 36 rfl f_12_204 rfl (congrArg Prod.fst (sh_si (sh_si (sh_si (sh_si (sh_si (F.1 125 (12, 92) rfl rfl))))))) (iv_si rfl (iv_si rfl (iv_si rfl (iv_si rfl (iv_si rfl (F.2.2.1 16036 0 rfl rfl)))))) ?_
        refine x_icge (tgt := 182) rfl rfl (br_t (by decide) ?_)
        refine x_vret rfl rfl ?_
        show jX m_X12_findBest 99 0 0 4 [(0, .ref 125), (1, .int a2)] [] _ 0 0 _
        refine x_aloadn (x := 125) rfl rfl ?_
        refine x_iconst (v := (-1)) rfl ki_m1 ?_
        refine x_putI 12 43 rfl f_12_446 rfl (jfin_no TX12 RX12 92 rfl rfl) (congrArg Prod.fst (sh_si (sh_si (sh_si (sh_si (sh_si (F.1 125 (12, 92) rfl rfl))))))) rfl ?_
        refine x_aloadn (x := 125) rfl rfl ?_
        refine x_iconst (v := 0) rfl ki_0 ?_
        refine x_putI 12 44 rfl f_12_449 rfl (jfin_no TX12 RX12 92 rfl rfl) (congrArg Prod.fst (sh_si (sh_si (sh_si (sh_si (sh_si (sh_si (F.1 125 (12, 92) rfl rfl)))))))) rfl ?_
        refine x_aloadn (x := 125) rfl rfl ?_
        refine x_inv (N := m_X12_firstGroups) (As := []) (b := 125) (st := []) (d' := 98) (mc := 0) (ms := 0) (host := "") 12 rfl t_X12_firstGroups ⟨Or.inl q_12_452, i_X12_firstGroups.1, i_X12_firstGroups.2⟩ ⟨by decide, rfl⟩ (congrArg Prod.fst (sh_si (sh_si (sh_si (sh_si (sh_si (sh_si (sh_si (F.1 125 (12, 92) rfl rfl))))))))) rfl (by decide) rfl rfl ⟨by decide, by decide⟩ (jC.of rfl k_X12_firstGroups rfl ?_)
        show jX m_X12_firstGroups 98 0 0 0 [(0, .ref 125)] [] _ 0 0 _
        refine x_iconst (v := 0) rfl ki_0 ?_
        refine x_istoren (ls' := [(1, .int 0), (0, .ref 125)]) rfl rfl rfl ?_
        refine x_iloadn (x := 0) rfl rfl ?_
        refine x_bipush (v := 9) rfl kb_9 ?_
        refine x_icge (tgt := 21) rfl rfl (br_f (by decide) ?_)
        refine x_aloadn (x := 125) rfl rfl ?_
        refine x_getR (b := 145) 12 41 rfl f_12_90 rfl (congrArg Prod.fst (sh_si (sh_si (sh_si (sh_si (sh_si (sh_si (sh_si (F.1 125 (12, 92) rfl rfl))))))))) (rv_si (rv_si (rv_si (rv_si (rv_si (rv_si (rv_si (F.2.1 16041 145 rfl rfl)))))))) ?_
        refine x_iloadn (x := 0) rfl rfl ?_
        refine x_iconst (v := 0) rfl ki_0 ?_
        refine y_iast (N := 9) 0 rfl (sh_si (sh_si (sh_si (sh_si (sh_si (sh_si (sh_si (F.1 145 (100, 9) rfl rfl)))))))) rfl (jinb_of (by decide)) (by decide) ?_
        refine x_iinc (x := 0) (v := 1) (ls' := [(1, .int 1), (0, .ref 125)]) rfl rfl (by decide) rfl rfl ?_
        refine x_goto (tgt := 2) rfl rfl ?_
        refine x_iloadn (x := 1) rfl rfl ?_
        refine x_bipush (v := 9) rfl kb_9 ?_
        refine x_icge (tgt := 21) rfl rfl (br_f (by decide) ?_)
        refine x_aloadn (x := 125) rfl rfl ?_
        refine x_getR (b := 145) 12 41 rfl f_12_90 rfl (congrArg Prod.fst (sh_si (sh_si (sh_si (sh_si (sh_si (sh_si (sh_si (sh_si (F.1 125 (12, 92) rfl rfl)))))))))) (rv_si (rv_si (rv_si (rv_si (rv_si (rv_si (rv_si (rv_si (F.2.1 16041 145 rfl rfl))))))))) ?_
        refine x_iloadn (x := 1) rfl rfl ?_
        refine x_iconst (v := 0) rfl ki_0 ?_
        refine y_iast (N := 9) 1 rfl (sh_si (sh_si (sh_si (sh_si (sh_si (sh_si (sh_si (sh_si (F.1 145 (100, 9) rfl rfl))))))))) rfl (jinb_of (by decide)) (by decide) ?_
        refine x_iinc (x := 1) (v := 2) (ls' := [(1, .int 2), (0, .ref 125)]) rfl rfl (by decide) rfl rfl ?_
        refine x_goto (tgt := 2) rfl rfl ?_
        refine x_iloadn (x := 2) rfl rfl ?_
        refine x_bipush (v := 9) rfl kb_9 ?_
        refine x_icge (tgt := 21) rfl rfl (br_f (by decide) ?_)
        refine x_aloadn (x := 125) rfl rfl ?_
        refine x_getR (b := 145) 12 41 rfl f_12_90 rfl (congrArg Prod.fst (sh_si (sh_si (sh_si (sh_si (sh_si (sh_si (sh_si (sh_si (sh_si (F.1 125 (12, 92) rfl rfl))))))))))) (rv_si (rv_si (rv_si (rv_si (rv_si (rv_si (rv_si (rv_si (rv_si (F.2.1 16041 145 rfl rfl)))))))))) ?_
        refine x_iloadn (x := 2) rfl rfl ?_
        refine x_iconst (v := 0) rfl ki_0 ?_
        refine y_iast (N := 9) 2 rfl (sh_si (sh_si (sh_si (sh_si (sh_si (sh_si (sh_si (sh_si (sh_si (F.1 145 (100, 9) rfl rfl)))))))))) rfl (jinb_of (by decide)) (by decide) ?_
        refine x_iinc (x := 2) (v := 3) (ls' := [(1, .int 3), (0, .ref 125)]) rfl rfl (by decide) rfl rfl ?_
        refine x_goto (tgt := 2) rfl rfl ?_
        refine x_iloadn (x := 3) rfl rfl ?_
        refine x_bipush (v := 9) rfl kb_9 ?_
        refine x_icge (tgt := 21) rfl rfl (br_f (by decide) ?_)
        refine x_aloadn (x := 125) rfl rfl ?_
        refine x_getR (b := 145) 12 41 rfl f_12_90 rfl (congrArg Prod.fst (sh_si (sh_si (sh_si (sh_si (sh_si (sh_si (sh_si (sh_si (sh_si (sh_si (F.1 125 (12, 92) rfl rfl)))))))))))) (rv_si (rv_si (rv_si (rv_si (rv_si (rv_si (rv_si (rv_si (rv_si (rv_si (F.2.1 16041 145 rfl rfl))))))))))) ?_
        refine x_iloadn (x := 3) rfl rfl ?_
        refine x_iconst (v := 0) rfl ki_0 ?_
        refine y_iast (N := 9) 3 rfl (sh_si (sh_si (sh_si (sh_si (sh_si (sh_si (sh_si (sh_si (sh_si (sh_si (F.1 145 (100, 9) rfl rfl))))))))))) rfl (jinb_of (by decide)) (by decide) ?_
        refine x_iinc (x := 3) (v := 4) (ls' := [(1, .int 4), (0, .ref 125)]) rfl rfl (by decide) rfl rfl ?_
        refine x_goto (tgt := 2) rfl rfl ?_
        refine x_iloadn (x := 4) rfl rfl ?_
        refine x_bipush (v := 9) rfl kb_9 ?_
        refine x_icge (tgt := 21) rfl rfl (br_f (by decide) ?_)
        refine x_aloadn (x := 125) rfl rfl ?_
        refine x_getR (b := 145) 12 41 rfl f_12_90 rfl (congrArg Prod.fst (sh_si (sh_si (sh_si (sh_si (sh_si (sh_si (sh_si (sh_si (sh_si (sh_si (sh_si (F.1 125 (12, 92) rfl rfl))))))))))))) (rv_si (rv_si (rv_si (rv_si (rv_si (rv_si (rv_si (rv_si (rv_si (rv_si (rv_si (F.2.1 16041 145 rfl rfl)))))))))))) ?_
        refine x_iloadn (x := 4) rfl rfl ?_
        refine x_iconst (v := 0) rfl ki_0 ?_
        refine y_iast (N := 9) 4 rfl (sh_si (sh_si (sh_si (sh_si (sh_si (sh_si (sh_si (sh_si (sh_si (sh_si (sh_si (F.1 145 (100, 9) rfl rfl)))))))))))) rfl (jinb_of (by decide)) (by decide) ?_
        refine x_iinc (x := 4) (v := 5) (ls' := [(1, .int 5), (0, .ref 125)]) rfl rfl (by decide) rfl rfl ?_
        refine x_goto (tgt := 2) rfl rfl ?_
        refine x_iloadn (x := 5) rfl rfl ?_
        refine x_bipush (v := 9) rfl kb_9 ?_
        refine x_icge (tgt := 21) rfl rfl (br_f (by decide) ?_)
        refine x_aloadn (x := 125) rfl rfl ?_
        refine x_getR (b := 145) 12 41 rfl f_12_90 rfl (congrArg Prod.fst (sh_si (sh_si (sh_si (sh_si (sh_si (sh_si (sh_si (sh_si (sh_si (sh_si (sh_si (sh_si (F.1 125 (12, 92) rfl rfl)))))))))))))) (rv_si (rv_si (rv_si (rv_si (rv_si (rv_si (rv_si (rv_si (rv_si (rv_si (rv_si (rv_si (F.2.1 16041 145 rfl rfl))))))))))))) ?_
        refine x_iloadn (x := 5) rfl rfl ?_
        refine x_iconst (v := 0) rfl ki_0 ?_
        refine y_iast (N := 9) 5 rfl (sh_si (sh_si (sh_si (sh_si (sh_si (sh_si (sh_si (sh_si (sh_si (sh_si (sh_si (sh_si (F.1 145 (100, 9) rfl rfl))))))))))))) rfl (jinb_of (by decide)) (by decide) ?_
        refine x_iinc (x := 5) (v := 6) (ls' := [(1, .int 6), (0, .ref 125)]) rfl rfl (by decide) rfl rfl ?_
        refine x_goto (tgt := 2) rfl rfl ?_
        refine x_iloadn (x := 6) rfl rfl ?_
        refine x_bipush (v := 9) rfl kb_9 ?_
        refine x_icge (tgt := 21) rfl rfl (br_f (by decide) ?_)
        refine x_aloadn (x := 125) rfl rfl ?_
        refine x_getR (b := 145) 12 41 rfl f_12_90 rfl (congrArg Prod.fst (sh_si (sh_si (sh_si (sh_si (sh_si (sh_si (sh_si (sh_si (sh_si (sh_si (sh_si (sh_si (sh_si (F.1 125 (12, 92) rfl rfl))))))))))))))) (rv_si (rv_si (rv_si (rv_si (rv_si (rv_si (rv_si (rv_si (rv_si (rv_si (rv_si (rv_si (rv_si (F.2.1 16041 145 rfl rfl)))))))))))))) ?_
        refine x_iloadn (x := 6) rfl rfl ?_
        refine x_iconst (v := 0) rfl ki_0 ?_
        refine y_iast (N := 9) 6 rfl (sh_si (sh_si (sh_si (sh_si (sh_si (sh_si (sh_si (sh_si (sh_si (sh_si (sh_si (sh_si (sh_si (F.1 145 (100, 9) rfl rfl)))))))))))))) rfl (jinb_of (by decide)) (by decide) ?_
        refine x_iinc (x := 6) (v := 7) (ls' := [(1, .int 7), (0, .ref 125)]) rfl rfl (by decide) rfl rfl ?_
        refine x_goto (tgt := 2) rfl rfl ?_
        refine x_iloadn (x := 7) rfl rfl ?_
        refine x_bipush (v := 9) rfl kb_9 ?_
        refine x_icge (tgt := 21) rfl rfl (br_f (by decide) ?_)
        refine x_aloadn (x := 125) rfl rfl ?_
        refine x_getR (b := 145) 12 41 rfl f_12_90 rfl (congrArg Prod.fst (sh_si (sh_si (sh_si (sh_si (sh_si (sh_si (sh_si (sh_si (sh_si (sh_si (sh_si (sh_si (sh_si (sh_si (F.1 125 (12, 92) rfl rfl)))))))))))))))) (rv_si (rv_si (rv_si (rv_si (rv_si (rv_si (rv_si (rv_si (rv_si (rv_si (rv_si (rv_si (rv_si (rv_si (F.2.1 16041 145 rfl rfl))))))))))))))) ?_
        refine x_iloadn (x := 7) rfl rfl ?_
        refine x_iconst (v := 0) rfl ki_0 ?_
        refine y_iast (N := 9) 7 rfl (sh_si (sh_si (sh_si (sh_si (sh_si (sh_si (sh_si (sh_si (sh_si (sh_si (sh_si (sh_si (sh_si (sh_si (F.1 145 (100, 9) rfl rfl))))))))))))))) rfl (jinb_of (by decide)) (by decide) ?_
        refine x_iinc (x := 7) (v := 8) (ls' := [(1, .int 8), (0, .ref 125)]) rfl rfl (by decide) rfl rfl ?_
        refine x_goto (tgt := 2) rfl rfl ?_
        refine x_iloadn (x := 8) rfl rfl ?_
        refine x_bipush (v := 9) rfl kb_9 ?_
        refine x_icge (tgt := 21) rfl rfl (br_f (by decide) ?_)
        refine x_aloadn (x := 125) rfl rfl ?_
        refine x_getR (b := 145) 12 41 rfl f_12_90 rfl (congrArg Prod.fst (sh_si (sh_si (sh_si (sh_si (sh_si (sh_si (sh_si (sh_si (sh_si (sh_si (sh_si (sh_si (sh_si (sh_si (sh_si (F.1 125 (12, 92) rfl rfl))))))))))))))))) (rv_si (rv_si (rv_si (rv_si (rv_si (rv_si (rv_si (rv_si (rv_si (rv_si (rv_si (rv_si (rv_si (rv_si (rv_si (F.2.1 16041 145 rfl rfl)))))))))))))))) ?_
        refine x_iloadn (x := 8) rfl rfl ?_
        refine x_iconst (v := 0) rfl ki_0 ?_
        refine y_iast (N := 9) 8 rfl (sh_si (sh_si (sh_si (sh_si (sh_si (sh_si (sh_si (sh_si (sh_si (sh_si (sh_si (sh_si (sh_si (sh_si (sh_si (F.1 145 (100, 9) rfl rfl)))))))))))))))) rfl (jinb_of (by decide)) (by decide) ?_
        refine x_iinc (x := 8) (v := 9) (ls' := [(1, .int 9), (0, .ref 125)]) rfl rfl (by decide) rfl rfl ?_
        refine x_goto (tgt := 2) rfl rfl ?_
        refine x_iloadn (x := 9) rfl rfl ?_
        refine x_bipush (v := 9) rfl kb_9 ?_
        refine x_icge (tgt := 21) rfl rfl (br_t (by decide) ?_)
        refine x_vret rfl rfl ?_
        show jX m_X12_findBest 99 0 0 18 [(0, .ref 125), (1, .int a2)] [] _ 0 0 _
        refine x_iconst (v := 1) rfl ki_1 ?_
        refine x_istoren (ls' := [(2, .int 1), (0, .ref 125), (1, .int a2)]) rfl rfl rfl ?_
        refine x_iloadn (x := 1) rfl rfl ?_
        refine x_ifeq (tgt := 160) rfl rfl (br_f (by decide) ?_)
        refine x_aloadn (x := 125) rfl rfl ?_
        refine x_inv (N := m_X12_groupsWorth) (As := []) (b := 125) (st := []) (d' := 98) (mc := 0) (ms := 0) (host := "") 12 rfl t_X12_groupsWorth ⟨Or.inl q_12_455, i_X12_groupsWorth.1, i_X12_groupsWorth.2⟩ ⟨by decide, rfl⟩ (congrArg Prod.fst (sh_si (sh_si (sh_si (sh_si (sh_si (sh_si (sh_si (sh_si (sh_si (sh_si (sh_si (sh_si (sh_si (sh_si (sh_si (sh_si (F.1 125 (12, 92) rfl rfl)))))))))))))))))) rfl (by decide) rfl rfl ⟨by decide, by decide⟩ (jC.of rfl k_X12_groupsWorth rfl ?_)
        show jX m_X12_groupsWorth 98 0 0 0 [(0, .ref 125)] [] _ 0 0 _
        refine x_iconst (v := 0) rfl ki_0 ?_
        refine x_istoren (ls' := [(1, .int 0), (0, .ref 125)]) rfl rfl rfl ?_
        refine x_iconst (v := 1) rfl ki_1 ?_
        refine x_istoren (ls' := [(2, .int 1), (1, .int 0), (0, .ref 125)]) rfl rfl rfl ?_
        refine x_iconst (v := 0) rfl ki_0 ?_
        refine x_istoren (ls' := [(3, .int 0), (2, .int 1), (1, .int 0), (0, .ref 125)]) rfl rfl rfl ?_
        refine x_iloadn (x := 0) rfl rfl ?_
        refine x_aloadn (x := 125) rfl rfl ?_
        refine y_getI (v := 0) 12 36 rfl f_12_204 rfl (congrArg Prod.fst (sh_si (sh_si (sh_si (sh_si (sh_si (sh_si (sh_si (sh_si (sh_si (sh_si (sh_si (sh_si (sh_si (sh_si (sh_si (sh_si (F.1 125 (12, 92) rfl rfl)))))))))))))))))) (iv_si rfl (iv_si rfl (iv_si rfl (iv_si rfl (iv_si rfl (iv_si rfl (iv_si rfl (iv_si rfl (iv_si rfl (iv_si rfl (iv_si rfl (iv_si rfl (iv_si rfl (iv_si rfl (iv_si rfl (iv_si rfl (F.2.2.1 16036 0 rfl rfl))))))))))))))))) ?_
        refine x_icge (tgt := 130) rfl rfl (br_t (by decide) ?_)
        refine x_iloadn (x := 1) rfl rfl ?_
        refine x_ifeq (tgt := 138) rfl rfl (br_f (by decide) ?_)
        refine x_iloadn (x := 0) rfl rfl ?_
        refine x_goto (tgt := 139) rfl rfl ?_
        refine x_iret rfl rfl ?_
        show jX m_X12_findBest 99 0 0 28 [(2, .int 1), (0, .ref 125), (1, .int a2)] [.int 0] _ 0 0 _
        refine x_istoren (ls' := [(3, .int 0), (2, .int 1), (0, .ref 125), (1, .int a2)]) rfl rfl rfl ?_
        refine x_iconst (v := 0) rfl ki_0 ?_
        refine x_istore (ls' := [(4, .int 0), (3, .int 0), (2, .int 1), (0, .ref 125), (1, .int a2)]) rfl rfl rfl ?_
        refine x_iconst (v := 0) rfl ki_0 ?_
        refine x_istore (ls' := [(5, .int 0), (4, .int 0), (3, .int 0), (2, .int 1), (0, .ref 125), (1, .int a2)]) rfl rfl rfl ?_
        refine x_iload (x := 0) rfl rfl ?_
        refine x_aloadn (x := 125) rfl rfl ?_
        refine y_getI (v := 0) 12 36 rfl f_12_204 rfl (congrArg Prod.fst (sh_si (sh_si (sh_si (sh_si (sh_si (sh_si (sh_si (sh_si (sh_si (sh_si (sh_si (sh_si (sh_si (sh_si (sh_si (sh_si (F.1 125 (12, 92) rfl rfl)))))))))))))))))) (iv_si rfl (iv_si rfl (iv_si rfl (iv_si rfl (iv_si rfl (iv_si rfl (iv_si rfl (iv_si rfl (iv_si rfl (iv_si rfl (iv_si rfl (iv_si rfl (iv_si rfl (iv_si rfl (iv_si rfl (iv_si rfl (F.2.2.1 16036 0 rfl rfl))))))))))))))))) ?_
        refine x_icge (tgt := 80) rfl rfl (br_t (by decide) ?_)
        refine x_iloadn (x := 0) rfl rfl ?_
        refine x_aloadn (x := 125) rfl rfl ?_
        refine y_getI (v := (-1)) 12 43 rfl f_12_446 rfl (congrArg Prod.fst (sh_si (sh_si (sh_si (sh_si (sh_si (sh_si (sh_si (sh_si (sh_si (sh_si (sh_si (sh_si (sh_si (sh_si (sh_si (sh_si (F.1 125 (12, 92) rfl rfl)))))))))))))))))) (iv_si rfl (iv_si rfl (iv_si rfl (iv_si rfl (iv_si rfl (iv_si rfl (iv_si rfl (iv_si rfl (iv_si rfl (iv_si rfl iv_eq)))))))))) ?_
        refine x_icgt (tgt := 109) rfl rfl (br_t (by decide) ?_)
        refine x_aloadn (x := 125) rfl rfl ?_
        refine x_iloadn (x := 0) rfl rfl ?_
        refine x_putI 12 43 rfl f_12_446 rfl (jfin_no TX12 RX12 92 rfl rfl) (congrArg Prod.fst (sh_si (sh_si (sh_si (sh_si (sh_si (sh_si (sh_si (sh_si (sh_si (sh_si (sh_si (sh_si (sh_si (sh_si (sh_si (sh_si (F.1 125 (12, 92) rfl rfl)))))))))))))))))) rfl ?_
        refine x_aloadn (x := 125) rfl rfl ?_
        refine x_iload (x := 0) rfl rfl ?_
        refine x_putI 12 44 rfl f_12_449 rfl (jfin_no TX12 RX12 92 rfl rfl) (congrArg Prod.fst (sh_si (sh_si (sh_si (sh_si (sh_si (sh_si (sh_si (sh_si (sh_si (sh_si (sh_si (sh_si (sh_si (sh_si (sh_si (sh_si (sh_si (F.1 125 (12, 92) rfl rfl))))))))))))))))))) rfl ?_
        refine x_iconst (v := 0) rfl ki_0 ?_
        refine x_istore (ls' := [(5, .int 0), (4, .int 0), (3, .int 0), (2, .int 1), (0, .ref 125), (1, .int a2)]) rfl rfl rfl ?_
        refine x_iload (x := 0) rfl rfl ?_
        refine x_aloadn (x := 125) rfl rfl ?_
        refine y_getI (v := 0) 12 36 rfl f_12_204 rfl (congrArg Prod.fst (sh_si (sh_si (sh_si (sh_si (sh_si (sh_si (sh_si (sh_si (sh_si (sh_si (sh_si (sh_si (sh_si (sh_si (sh_si (sh_si (sh_si (sh_si (F.1 125 (12, 92) rfl rfl)))))))))))))))))))) (iv_si rfl (iv_si rfl (iv_si rfl (iv_si rfl (iv_si rfl (iv_si rfl (iv_si rfl (iv_si rfl (iv_si rfl (iv_si rfl (iv_si rfl (iv_si rfl (iv_si rfl (iv_si rfl (iv_si rfl (iv_si rfl (iv_si rfl (iv_si rfl (F.2.2.1 16036 0 rfl rfl))))))))))))))))))) ?_
        refine x_icge (tgt := 152) rfl rfl (br_t (by decide) ?_)
        refine x_aloadn (x := 125) rfl rfl ?_
        refine x_inv (N := m_X12_nextGroups) (As := []) (b := 125) (st := []) (d' := 98) (mc := 0) (ms := 0) (host := "") 12 rfl t_X12_nextGroups ⟨Or.inl q_12_459, i_X12_nextGroups.1, i_X12_nextGroups.2⟩ ⟨by decide, rfl⟩ (congrArg Prod.fst (sh_si (sh_si (sh_si (sh_si (sh_si (sh_si (sh_si (sh_si (sh_si (sh_si (sh_si (sh_si (sh_si (sh_si (sh_si (sh_si (sh_si (sh_si (F.1 125 (12, 92) rfl rfl)))))))))))))))))))) rfl (by decide) rfl rfl ⟨by decide, by decide⟩ (jC.of rfl k_X12_nextGroups rfl ?_)
        show jX m_X12_nextGroups 98 0 0 0 [(0, .ref 125)] [] _ 0 0 _
        refine x_aloadn (x := 125) rfl rfl ?_
        refine y_getI (v := 0) 12 36 rfl f_12_204 rfl (congrArg Prod.fst (sh_si (sh_si (sh_si (sh_si (sh_si (sh_si (sh_si (sh_si (sh_si (sh_si (sh_si (sh_si (sh_si (sh_si (sh_si (sh_si (sh_si (sh_si (F.1 125 (12, 92) rfl rfl)))))))))))))))))))) (iv_si rfl (iv_si rfl (iv_si rfl (iv_si rfl (iv_si rfl (iv_si rfl (iv_si rfl (iv_si rfl (iv_si rfl (iv_si rfl (iv_si rfl (iv_si rfl (iv_si rfl (iv_si rfl (iv_si rfl (iv_si rfl (iv_si rfl (iv_si rfl (F.2.2.1 16036 0 rfl rfl))))))))))))))))))) ?_
        refine x_iconst (v := 1) rfl ki_1 ?_
        refine y_isub (v := (-1)) rfl (by decide) ?_
        refine x_istoren (ls' := [(1, .int (-1)), (0, .ref 125)]) rfl rfl rfl ?_
        refine x_iloadn (x := (-1)) rfl rfl ?_
        refine x_ifle (tgt := 100) rfl rfl (br_t (by decide) ?_)
        refine x_iconst (v := 0) rfl ki_0 ?_
        refine x_zret rfl rfl (by first | decide | exact jp_01 _) ?_
        show jX m_X12_findBest 99 0 0 156 [(5, .int 0), (4, .int 0), (3, .int 0), (2, .int 1), (0, .ref 125), (1, .int a2)] [.int 0] _ 0 0 _
        refine x_istoren (ls' := [(2, .int 0), (5, .int 0), (4, .int 0), (3, .int 0), (0, .ref 125), (1, .int a2)]) rfl rfl rfl ?_
        refine x_goto (tgt := 20) rfl rfl ?_
        refine x_iloadn (x := 0) rfl rfl ?_
        refine x_ifeq (tgt := 160) rfl rfl (br_t (by decide) ?_)
        refine x_aloadn (x := 125) rfl rfl ?_
        refine x_iconst (v := 0) rfl ki_0 ?_
        refine x_putI 12 46 rfl f_12_463 rfl (jfin_no TX12 RX12 92 rfl rfl) (congrArg Prod.fst (sh_si (sh_si (sh_si (sh_si (sh_si (sh_si (sh_si (sh_si (sh_si (sh_si (sh_si (sh_si (sh_si (sh_si (sh_si (sh_si (sh_si (sh_si (F.1 125 (12, 92) rfl rfl)))))))))))))))))))) rfl ?_
        refine x_aloadn (x := 125) rfl rfl ?_
        refine x_inv (N := m_X12_firstGroups) (As := []) (b := 125) (st := []) (d' := 98) (mc := 0) (ms := 0) (host := "") 12 rfl t_X12_firstGroups ⟨Or.inl q_12_452, i_X12_firstGroups.1, i_X12_firstGroups.2⟩ ⟨by decide, rfl⟩ (congrArg Prod.fst (sh_si (sh_si (sh_si (sh_si (sh_si (sh_si (sh_si (sh_si (sh_si (sh_si (sh_si (sh_si (sh_si (sh_si (sh_si (sh_si (sh_si (sh_si (sh_si (F.1 125 (12, 92) rfl rfl))))))))))))))))))))) rfl (by decide) rfl rfl ⟨by decide, by decide⟩ (jC.of rfl k_X12_firstGroups rfl ?_)
        show jX m_X12_firstGroups 98 0 0 0 [(0, .ref 125)] [] _ 0 0 _
        refine x_iconst (v := 0) rfl ki_0 ?_
        refine x_istoren (ls' := [(1, .int 0), (0, .ref 125)]) rfl rfl rfl ?_
        refine x_iloadn (x := 0) rfl rfl ?_
        refine x_bipush (v := 9) rfl kb_9 ?_
        refine x_icge (tgt := 21) rfl rfl (br_f (by decide) ?_)
        refine x_aloadn (x := 125) rfl rfl ?_
        refine x_getR (b := 145) 12 41 rfl f_12_90 rfl (congrArg Prod.fst (sh_si (sh_si (sh_si (sh_si (sh_si (sh_si (sh_si (sh_si (sh_si (sh_si (sh_si (sh_si (sh_si (sh_si (sh_si (sh_si (sh_si (sh_si (sh_si (F.1 125 (12, 92) rfl rfl))))))))))))))))))))) (rv_si (rv_si (rv_si (rv_si (rv_si (rv_si (rv_si (rv_si (rv_si (rv_si (rv_si (rv_si (rv_si (rv_si (rv_si (rv_si (rv_si (rv_si (rv_si (F.2.1 16041 145 rfl rfl)))))))))))))))))))) ?_
        refine x_iloadn (x := 0) rfl rfl ?_
        refine x_iconst (v := 0) rfl ki_0 ?_
        refine y_iast (N := 9) 0 rfl (sh_si (sh_si (sh_si (sh_si (sh_si (sh_si (sh_si (sh_si (sh_si (sh_si (sh_si (sh_si (sh_si (sh_si (sh_si (sh_si (sh_si (sh_si (sh_si (F.1 145 (100, 9) rfl rfl)))))))))))))))))))) rfl (jinb_of (by decide)) (by decide) ?_
        refine x_iinc (x := 0) (v := 1) (ls' := [(1, .int 1), (0, .ref 125)]) rfl rfl (by decide) rfl rfl ?_
        refine x_goto (tgt := 2) rfl rfl ?_
        refine x_iloadn (x := 1) rfl rfl ?_
        refine x_bipush (v := 9) rfl kb_9 ?_
        refine x_icge (tgt := 21) rfl rfl (br_f (by decide) ?_)
        refine x_aloadn (x := 125) rfl rfl ?_
        refine x_getR (b := 145) 12 41 rfl f_12_90 rfl (congrArg Prod.fst (sh_si (sh_si (sh_si (sh_si (sh_si (sh_si (sh_si (sh_si (sh_si (sh_si (sh_si (sh_si (sh_si (sh_si (sh_si (sh_si (sh_si (sh_si (sh_si (sh_si (F.1 125 (12, 92) rfl rfl)))))))))))))))))))))) (rv_si (rv_si (rv_si (rv_si (rv_si (rv_si (rv_si (rv_si (rv_si (rv_si (rv_si (rv_si (rv_si (rv_si (rv_si (rv_si (rv_si (rv_si (rv_si (rv_si (F.2.1 16041 145 rfl rfl))))))))))))))))))))) ?_
        refine x_iloadn (x := 1) rfl rfl ?_
        refine x_iconst (v := 0) rfl ki_0 ?_
        refine y_iast (N := 9) 1 rfl (sh_si (sh_si (sh_si (sh_si (sh_si (sh_si (sh_si (sh_si (sh_si (sh_si (sh_si (sh_si (sh_si (sh_si (sh_si (sh_si (sh_si (sh_si (sh_si (sh_si (F.1 145 (100, 9) rfl rfl))))))))))))))))))))) rfl (jinb_of (by decide)) (by decide) ?_
        refine x_iinc (x := 1) (v := 2) (ls' := [(1, .int 2), (0, .ref 125)]) rfl rfl (by decide) rfl rfl ?_
        refine x_goto (tgt := 2) rfl rfl ?_
        refine x_iloadn (x := 2) rfl rfl ?_
        refine x_bipush (v := 9) rfl kb_9 ?_
        refine x_icge (tgt := 21) rfl rfl (br_f (by decide) ?_)
        refine x_aloadn (x := 125) rfl rfl ?_
        refine x_getR (b := 145) 12 41 rfl f_12_90 rfl (congrArg Prod.fst (sh_si (sh_si (sh_si (sh_si (sh_si (sh_si (sh_si (sh_si (sh_si (sh_si (sh_si (sh_si (sh_si (sh_si (sh_si (sh_si (sh_si (sh_si (sh_si (sh_si (sh_si (F.1 125 (12, 92) rfl rfl))))))))))))))))))))))) (rv_si (rv_si (rv_si (rv_si (rv_si (rv_si (rv_si (rv_si (rv_si (rv_si (rv_si (rv_si (rv_si (rv_si (rv_si (rv_si (rv_si (rv_si (rv_si (rv_si (rv_si (F.2.1 16041 145 rfl rfl)))))))))))))))))))))) ?_
        refine x_iloadn (x := 2) rfl rfl ?_
        refine x_iconst (v := 0) rfl ki_0 ?_
        refine y_iast (N := 9) 2 rfl (sh_si (sh_si (sh_si (sh_si (sh_si (sh_si (sh_si (sh_si (sh_si (sh_si (sh_si (sh_si (sh_si (sh_si (sh_si (sh_si (sh_si (sh_si (sh_si (sh_si (sh_si (F.1 145 (100, 9) rfl rfl)))))))))))))))))))))) rfl (jinb_of (by decide)) (by decide) ?_
        refine x_iinc (x := 2) (v := 3) (ls' := [(1, .int 3), (0, .ref 125)]) rfl rfl (by decide) rfl rfl ?_
        refine x_goto (tgt := 2) rfl rfl ?_
        refine x_iloadn (x := 3) rfl rfl ?_
        refine x_bipush (v := 9) rfl kb_9 ?_
        refine x_icge (tgt := 21) rfl rfl (br_f (by decide) ?_)
        refine x_aloadn (x := 125) rfl rfl ?_
        refine x_getR (b := 145) 12 41 rfl f_12_90 rfl (congrArg Prod.fst (sh_si (sh_si (sh_si (sh_si (sh_si (sh_si (sh_si (sh_si (sh_si (sh_si (sh_si (sh_si (sh_si (sh_si (sh_si (sh_si (sh_si (sh_si (sh_si (sh_si (sh_si (sh_si (F.1 125 (12, 92) rfl rfl)))))))))))))))))))))))) (rv_si (rv_si (rv_si (rv_si (rv_si (rv_si (rv_si (rv_si (rv_si (rv_si (rv_si (rv_si (rv_si (rv_si (rv_si (rv_si (rv_si (rv_si (rv_si (rv_si (rv_si (rv_si (F.2.1 16041 145 rfl rfl))))))))))))))))))))))) ?_
        refine x_iloadn (x := 3) rfl rfl ?_
        refine x_iconst (v := 0) rfl ki_0 ?_
        refine y_iast (N := 9) 3 rfl (sh_si (sh_si (sh_si (sh_si (sh_si (sh_si (sh_si (sh_si (sh_si (sh_si (sh_si (sh_si (sh_si (sh_si (sh_si (sh_si (sh_si (sh_si (sh_si (sh_si (sh_si (sh_si (F.1 145 (100, 9) rfl rfl))))))))))))))))))))))) rfl (jinb_of (by decide)) (by decide) ?_
        refine x_iinc (x := 3) (v := 4) (ls' := [(1, .int 4), (0, .ref 125)]) rfl rfl (by decide) rfl rfl ?_
        refine x_goto (tgt := 2) rfl rfl ?_
        refine x_iloadn (x := 4) rfl rfl ?_
        refine x_bipush (v := 9) rfl kb_9 ?_
        refine x_icge (tgt := 21) rfl rfl (br_f (by decide) ?_)
        refine x_aloadn (x := 125) rfl rfl ?_
        refine x_getR (b := 145) 12 41 rfl f_12_90 rfl (congrArg Prod.fst (sh_si (sh_si (sh_si (sh_si (sh_si (sh_si (sh_si (sh_si (sh_si (sh_si (sh_si (sh_si (sh_si (sh_si (sh_si (sh_si (sh_si (sh_si (sh_si (sh_si (sh_si (sh_si (sh_si (F.1 125 (12, 92) rfl rfl))))))))))))))))))))))))) (rv_si (rv_si (rv_si (rv_si (rv_si (rv_si (rv_si (rv_si (rv_si (rv_si (rv_si (rv_si (rv_si (rv_si (rv_si (rv_si (rv_si (rv_si (rv_si (rv_si (rv_si (rv_si (rv_si (F.2.1 16041 145 rfl rfl)))))))))))))))))))))))) ?_
        refine x_iloadn (x := 4) rfl rfl ?_
        refine x_iconst (v := 0) rfl ki_0 ?_
        refine y_iast (N := 9) 4 rfl (sh_si (sh_si (sh_si (sh_si (sh_si (sh_si (sh_si (sh_si (sh_si (sh_si (sh_si (sh_si (sh_si (sh_si (sh_si (sh_si (sh_si (sh_si (sh_si (sh_si (sh_si (sh_si (sh_si (F.1 145 (100, 9) rfl rfl)))))))))))))))))))))))) rfl (jinb_of (by decide)) (by decide) ?_
        refine x_iinc (x := 4) (v := 5) (ls' := [(1, .int 5), (0, .ref 125)]) rfl rfl (by decide) rfl rfl ?_
        refine x_goto (tgt := 2) rfl rfl ?_
        refine x_iloadn (x := 5) rfl rfl ?_
        refine x_bipush (v := 9) rfl kb_9 ?_
        refine x_icge (tgt := 21) rfl rfl (br_f (by decide) ?_)
        refine x_aloadn (x := 125) rfl rfl ?_
        refine x_getR (b := 145) 12 41 rfl f_12_90 rfl (congrArg Prod.fst (sh_si (sh_si (sh_si (sh_si (sh_si (sh_si (sh_si (sh_si (sh_si (sh_si (sh_si (sh_si (sh_si (sh_si (sh_si (sh_si (sh_si (sh_si (sh_si (sh_si (sh_si (sh_si (sh_si (sh_si (F.1 125 (12, 92) rfl rfl)))))))))))))))))))))))))) (rv_si (rv_si (rv_si (rv_si (rv_si (rv_si (rv_si (rv_si (rv_si (rv_si (rv_si (rv_si (rv_si (rv_si (rv_si (rv_si (rv_si (rv_si (rv_si (rv_si (rv_si (rv_si (rv_si (rv_si (F.2.1 16041 145 rfl rfl))))))))))))))))))))))))) ?_
        refine x_iloadn (x := 5) rfl rfl ?_
        refine x_iconst (v := 0) rfl ki_0 ?_
        refine y_iast (N := 9) 5 rfl (sh_si (sh_si (sh_si (sh_si (sh_si (sh_si (sh_si (sh_si (sh_si (sh_si (sh_si (sh_si (sh_si (sh_si (sh_si (sh_si (sh_si (sh_si (sh_si (sh_si (sh_si (sh_si (sh_si (sh_si (F.1 145 (100, 9) rfl rfl))))))))))))))))))))))))) rfl (jinb_of (by decide)) (by decide) ?_
        refine x_iinc (x := 5) (v := 6) (ls' := [(1, .int 6), (0, .ref 125)]) rfl rfl (by decide) rfl rfl ?_
        refine x_goto (tgt := 2) rfl rfl ?_
        refine x_iloadn (x := 6) rfl rfl ?_
        refine x_bipush (v := 9) rfl kb_9 ?_
        refine x_icge (tgt := 21) rfl rfl (br_f (by decide) ?_)
        refine x_aloadn (x := 125) rfl rfl ?_
        refine x_getR (b := 145) 12 41 rfl f_12_90 rfl (congrArg Prod.fst (sh_si (sh_si (sh_si (sh_si (sh_si (sh_si (sh_si (sh_si (sh_si (sh_si (sh_si (sh_si (sh_si (sh_si (sh_si (sh_si (sh_si (sh_si (sh_si (sh_si (sh_si (sh_si (sh_si (sh_si (sh_si (F.1 125 (12, 92) rfl rfl))))))))))))))))))))))))))) (rv_si (rv_si (rv_si (rv_si (rv_si (rv_si (rv_si (rv_si (rv_si (rv_si (rv_si (rv_si (rv_si (rv_si (rv_si (rv_si (rv_si (rv_si (rv_si (rv_si (rv_si (rv_si (rv_si (rv_si (rv_si (F.2.1 16041 145 rfl rfl)))))))))))))))))))))))))) ?_
        refine x_iloadn (x := 6) rfl rfl ?_
        refine x_iconst (v := 0) rfl ki_0 ?_
        refine y_iast (N := 9) 6 rfl (sh_si (sh_si (sh_si (sh_si (sh_si (sh_si (sh_si (sh_si (sh_si (sh_si (sh_si (sh_si (sh_si (sh_si (sh_si (sh_si (sh_si (sh_si (sh_si (sh_si (sh_si (sh_si (sh_si (sh_si (sh_si (F.1 145 (100, 9) rfl rfl)))))))))))))))))))))))))) rfl (jinb_of (by decide)) (by decide) ?_
        refine x_iinc (x := 6) (v := 7) (ls' := [(1, .int 7), (0, .ref 125)]) rfl rfl (by decide) rfl rfl ?_
        refine x_goto (tgt := 2) rfl rfl ?_
        refine x_iloadn (x := 7) rfl rfl ?_
        refine x_bipush (v := 9) rfl kb_9 ?_
        refine x_icge (tgt := 21) rfl rfl (br_f (by decide) ?_)
        refine x_aloadn (x := 125) rfl rfl ?_
        refine x_getR (b := 145) 12 41 rfl f_12_90 rfl (congrArg Prod.fst (sh_si (sh_si (sh_si (sh_si (sh_si (sh_si (sh_si (sh_si (sh_si (sh_si (sh_si (sh_si (sh_si (sh_si (sh_si (sh_si (sh_si (sh_si (sh_si (sh_si (sh_si (sh_si (sh_si (sh_si (sh_si (sh_si (F.1 125 (12, 92) rfl rfl)))))))))))))))))))))))))))) (rv_si (rv_si (rv_si (rv_si (rv_si (rv_si (rv_si (rv_si (rv_si (rv_si (rv_si (rv_si (rv_si (rv_si (rv_si (rv_si (rv_si (rv_si (rv_si (rv_si (rv_si (rv_si (rv_si (rv_si (rv_si (rv_si (F.2.1 16041 145 rfl rfl))))))))))))))))))))))))))) ?_
        refine x_iloadn (x := 7) rfl rfl ?_
        refine x_iconst (v := 0) rfl ki_0 ?_
        refine y_iast (N := 9) 7 rfl (sh_si (sh_si (sh_si (sh_si (sh_si (sh_si (sh_si (sh_si (sh_si (sh_si (sh_si (sh_si (sh_si (sh_si (sh_si (sh_si (sh_si (sh_si (sh_si (sh_si (sh_si (sh_si (sh_si (sh_si (sh_si (sh_si (F.1 145 (100, 9) rfl rfl))))))))))))))))))))))))))) rfl (jinb_of (by decide)) (by decide) ?_
        refine x_iinc (x := 7) (v := 8) (ls' := [(1, .int 8), (0, .ref 125)]) rfl rfl (by decide) rfl rfl ?_
        refine x_goto (tgt := 2) rfl rfl ?_
        refine x_iloadn (x := 8) rfl rfl ?_
        refine x_bipush (v := 9) rfl kb_9 ?_
        refine x_icge (tgt := 21) rfl rfl (br_f (by decide) ?_)
        refine x_aloadn (x := 125) rfl rfl ?_
        refine x_getR (b := 145) 12 41 rfl f_12_90 rfl (congrArg Prod.fst (sh_si (sh_si (sh_si (sh_si (sh_si (sh_si (sh_si (sh_si (sh_si (sh_si (sh_si (sh_si (sh_si (sh_si (sh_si (sh_si (sh_si (sh_si (sh_si (sh_si (sh_si (sh_si (sh_si (sh_si (sh_si (sh_si (sh_si (F.1 125 (12, 92) rfl rfl))))))))))))))))))))))))))))) (rv_si (rv_si (rv_si (rv_si (rv_si (rv_si (rv_si (rv_si (rv_si (rv_si (rv_si (rv_si (rv_si (rv_si (rv_si (rv_si (rv_si (rv_si (rv_si (rv_si (rv_si (rv_si (rv_si (rv_si (rv_si (rv_si (rv_si (F.2.1 16041 145 rfl rfl)))))))))))))))))))))))))))) ?_
        refine x_iloadn (x := 8) rfl rfl ?_
        refine x_iconst (v := 0) rfl ki_0 ?_
        refine y_iast (N := 9) 8 rfl (sh_si (sh_si (sh_si (sh_si (sh_si (sh_si (sh_si (sh_si (sh_si (sh_si (sh_si (sh_si (sh_si (sh_si (sh_si (sh_si (sh_si (sh_si (sh_si (sh_si (sh_si (sh_si (sh_si (sh_si (sh_si (sh_si (sh_si (F.1 145 (100, 9) rfl rfl)))))))))))))))))))))))))))) rfl (jinb_of (by decide)) (by decide) ?_
        refine x_iinc (x := 8) (v := 9) (ls' := [(1, .int 9), (0, .ref 125)]) rfl rfl (by decide) rfl rfl ?_
        refine x_goto (tgt := 2) rfl rfl ?_
        refine x_iloadn (x := 9) rfl rfl ?_
        refine x_bipush (v := 9) rfl kb_9 ?_
        refine x_icge (tgt := 21) rfl rfl (br_t (by decide) ?_)
        refine x_vret rfl rfl ?_
        show jX m_X12_findBest 99 0 0 169 [(2, .int 0), (5, .int 0), (4, .int 0), (3, .int 0), (0, .ref 125), (1, .int a2)] [] _ 0 0 _
        refine x_iconst (v := 1) rfl ki_1 ?_
        refine x_istoren (ls' := [(2, .int 1), (5, .int 0), (4, .int 0), (3, .int 0), (0, .ref 125), (1, .int a2)]) rfl rfl rfl ?_
        refine x_iloadn (x := 1) rfl rfl ?_
        refine x_ifeq (tgt := 216) rfl rfl (br_f (by decide) ?_)
        refine x_aloadn (x := 125) rfl rfl ?_
        refine x_inv (N := m_X12_groupsWorth) (As := []) (b := 125) (st := []) (d' := 98) (mc := 0) (ms := 0) (host := "") 12 rfl t_X12_groupsWorth ⟨Or.inl q_12_455, i_X12_groupsWorth.1, i_X12_groupsWorth.2⟩ ⟨by decide, rfl⟩ (congrArg Prod.fst (sh_si (sh_si (sh_si (sh_si (sh_si (sh_si (sh_si (sh_si (sh_si (sh_si (sh_si (sh_si (sh_si (sh_si (sh_si (sh_si (sh_si (sh_si (sh_si (sh_si (sh_si (sh_si (sh_si (sh_si (sh_si (sh_si (sh_si (sh_si (F.1 125 (12, 92) rfl rfl)))))))))))))))))))))))))))))) rfl (by decide) rfl rfl ⟨by decide, by decide⟩ (jC.of rfl k_X12_groupsWorth rfl ?_)
        show jX m_X12_groupsWorth 98 0 0 0 [(0, .ref 125)] [] _ 0 0 _
        refine x_iconst (v := 0) rfl ki_0 ?_
        refine x_istoren (ls' := [(1, .int 0), (0, .ref 125)]) rfl rfl rfl ?_
        refine x_iconst (v := 1) rfl ki_1 ?_
        refine x_istoren (ls' := [(2, .int 1), (1, .int 0), (0, .ref 125)]) rfl rfl rfl ?_
        refine x_iconst (v := 0) rfl ki_0 ?_
        refine x_istoren (ls' := [(3, .int 0), (2, .int 1), (1, .int 0), (0, .ref 125)]) rfl rfl rfl ?_
        refine x_iloadn (x := 0) rfl rfl ?_
        refine x_aloadn (x := 125) rfl rfl ?_
        refine y_getI (v := 0) 12 36 rfl f_12_204 rfl (congrArg Prod.fst (sh_si (sh_si (sh_si (sh_si (sh_si (sh_si (sh_si (sh_si (sh_si (sh_si (sh_si (sh_si (sh_si (sh_si (sh_si (sh_si (sh_si (sh_si (sh_si (sh_si (sh_si (sh_si (sh_si (sh_si (sh_si (sh_si (sh_si (sh_si (F.1 125 (12, 92) rfl rfl)))))))))))))))))))))))))))))) (iv_si rfl (iv_si rfl (iv_si rfl (iv_si rfl (iv_si rfl (iv_si rfl (iv_si rfl (iv_si rfl (iv_si rfl (iv_si rfl (iv_si rfl (iv_si rfl (iv_si rfl (iv_si rfl (iv_si rfl (iv_si rfl (iv_si rfl (iv_si rfl (iv_si rfl (iv_si rfl (iv_si rfl (iv_si rfl (iv_si rfl (iv_si rfl (iv_si rfl (iv_si rfl (iv_si rfl (iv_si rfl (F.2.2.1 16036 0 rfl rfl))))))))))))))))))))))))))))) ?_
        refine x_icge (tgt := 130) rfl rfl (br_t (by decide) ?_)
        refine x_iloadn (x := 1) rfl rfl ?_
        refine x_ifeq (tgt := 138) rfl rfl (br_f (by decide) ?_)
        refine x_iloadn (x := 0) rfl rfl ?_
        refine x_goto (tgt := 139) rfl rfl ?_
        refine x_iret rfl rfl ?_
        show jX m_X12_findBest 99 0 0 179 [(2, .int 1), (5, .int 0), (4, .int 0), (3, .int 0), (0, .ref 125), (1, .int a2)] [.int 0] _ 0 0 _
        refine x_istoren (ls' := [(3, .int 0), (2, .int 1), (5, .int 0), (4, .int 0), (0, .ref 125), (1, .int a2)]) rfl rfl rfl ?_
        refine x_aloadn (x := 125) rfl rfl ?_
        refine x_dup rfl rfl ?_
        refine y_getI (v := 0) 12 46 rfl f_12_463 rfl (congrArg Prod.fst (sh_si (sh_si (sh_si (sh_si (sh_si (sh_si (sh_si (sh_si (sh_si (sh_si (sh_si (sh_si (sh_si (sh_si (sh_si (sh_si (sh_si (sh_si (sh_si (sh_si (sh_si (sh_si (sh_si (sh_si (sh_si (sh_si (sh_si (sh_si (F.1 125 (12, 92) rfl rfl)))))))))))))))))))))))))))))) (iv_si rfl (iv_si rfl (iv_si rfl (iv_si rfl (iv_si rfl (iv_si rfl (iv_si rfl (iv_si rfl (iv_si rfl iv_eq))))))))) ?_
        refine x_iloadn (x := 0) rfl rfl ?_
        refine x_iflt (tgt := 203) rfl rfl (br_f (by decide) ?_)
        refine x_iloadn (x := 0) rfl rfl ?_
        refine x_aloadn (x := 125) rfl rfl ?_
        refine y_getI (v := 0) 12 43 rfl f_12_446 rfl (congrArg Prod.fst (sh_si (sh_si (sh_si (sh_si (sh_si (sh_si (sh_si (sh_si (sh_si (sh_si (sh_si (sh_si (sh_si (sh_si (sh_si (sh_si (sh_si (sh_si (sh_si (sh_si (sh_si (sh_si (sh_si (sh_si (sh_si (sh_si (sh_si (sh_si (F.1 125 (12, 92) rfl rfl)))))))))))))))))))))))))))))) (iv_si rfl (iv_si rfl (iv_si rfl (iv_si rfl (iv_si rfl (iv_si rfl (iv_si rfl (iv_si rfl (iv_si rfl (iv_si rfl (iv_si rfl iv_eq))))))))))) ?_
        refine x_iloadn (x := a2) rfl rfl ?_
        refine x_isub rfl ?_
        have c7 := jsubf (x := 0) (y := a2) (show (0 : Int32).toInt = 0 by decide) (show (a2 : Int32).toInt = a2.toInt from rfl) (by omega)
        refine x_iclt (tgt := 203) rfl rfl (ti_lt (show (0 : Int32).toInt = 0 by decide) (show (0 - a2 : Int32).toInt = (0 - a2).toInt from rfl) ⟨fun c8 => ?_, fun c8 => ?_⟩)
        ·
          exfalso
          omega
        ·
          refine x_iconst (v := 1) rfl ki_1 ?_
          refine x_goto (tgt := 204) rfl rfl ?_
          refine y_iadd (v := 1) rfl (by decide) ?_
          refine x_putI 12 46 rfl f_12_463 rfl (jfin_no TX12 RX12 92 rfl rfl) (congrArg Prod.fst (sh_si (sh_si (sh_si (sh_si (sh_si (sh_si (sh_si (sh_si (sh_si (sh_si (sh_si (sh_si (sh_si (sh_si (sh_si (sh_si (sh_si (sh_si (sh_si (sh_si (sh_si (sh_si (sh_si (sh_si (sh_si (sh_si (sh_si (sh_si (F.1 125 (12, 92) rfl rfl)))))))))))))))))))))))))))))) rfl ?_
          refine x_aloadn (x := 125) rfl rfl ?_
          refine x_inv (N := m_X12_nextGroups) (As := []) (b := 125) (st := []) (d' := 98) (mc := 0) (ms := 0) (host := "") 12 rfl t_X12_nextGroups ⟨Or.inl q_12_459, i_X12_nextGroups.1, i_X12_nextGroups.2⟩ ⟨by decide, rfl⟩ (congrArg Prod.fst (sh_si (sh_si (sh_si (sh_si (sh_si (sh_si (sh_si (sh_si (sh_si (sh_si (sh_si (sh_si (sh_si (sh_si (sh_si (sh_si (sh_si (sh_si (sh_si (sh_si (sh_si (sh_si (sh_si (sh_si (sh_si (sh_si (sh_si (sh_si (sh_si (F.1 125 (12, 92) rfl rfl))))))))))))))))))))))))))))))) rfl (by decide) rfl rfl ⟨by decide, by decide⟩ (jC.of rfl k_X12_nextGroups rfl ?_)
          show jX m_X12_nextGroups 98 0 0 0 [(0, .ref 125)] [] _ 0 0 _
          refine x_aloadn (x := 125) rfl rfl ?_
          refine y_getI (v := 0) 12 36 rfl f_12_204 rfl (congrArg Prod.fst (sh_si (sh_si (sh_si (sh_si (sh_si (sh_si (sh_si (sh_si (sh_si (sh_si (sh_si (sh_si (sh_si (sh_si (sh_si (sh_si (sh_si (sh_si (sh_si (sh_si (sh_si (sh_si (sh_si (sh_si (sh_si (sh_si (sh_si (sh_si (sh_si (F.1 125 (12, 92) rfl rfl))))))))))))))))))))))))))))))) (iv_si rfl (iv_si rfl (iv_si rfl (iv_si rfl (iv_si rfl (iv_si rfl (iv_si rfl (iv_si rfl (iv_si rfl (iv_si rfl (iv_si rfl (iv_si rfl (iv_si rfl (iv_si rfl (iv_si rfl (iv_si rfl (iv_si rfl (iv_si rfl (iv_si rfl (iv_si rfl (iv_si rfl (iv_si rfl (iv_si rfl (iv_si rfl (iv_si rfl (iv_si rfl (iv_si rfl (iv_si rfl (iv_si rfl (F.2.2.1 16036 0 rfl rfl)))))))))))))))))))))))))))))) ?_
          refine x_iconst (v := 1) rfl ki_1 ?_
          refine y_isub (v := (-1)) rfl (by decide) ?_
          refine x_istoren (ls' := [(1, .int (-1)), (0, .ref 125)]) rfl rfl rfl ?_
          refine x_iloadn (x := (-1)) rfl rfl ?_
          refine x_ifle (tgt := 100) rfl rfl (br_t (by decide) ?_)
          refine x_iconst (v := 0) rfl ki_0 ?_
          refine x_zret rfl rfl (by first | decide | exact jp_01 _) ?_
          show jX m_X12_findBest 99 0 0 212 [(3, .int 0), (2, .int 1), (5, .int 0), (4, .int 0), (0, .ref 125), (1, .int a2)] [.int 0] _ 0 0 _
          refine x_istoren (ls' := [(2, .int 0), (3, .int 0), (5, .int 0), (4, .int 0), (0, .ref 125), (1, .int a2)]) rfl rfl rfl ?_
          refine x_goto (tgt := 171) rfl rfl ?_
          refine x_iloadn (x := 0) rfl rfl ?_
          refine x_ifeq (tgt := 216) rfl rfl (br_t (by decide) ?_)
          refine x_vret rfl rfl ?_
          show jX m_X12_best 100 0 0 50 [(0, .ref 125), (1, .int a1), (2, .int a2)] [] _ 0 0 _
          refine x_iloadn (x := a1) rfl rfl ?_
          refine x_ifne (tgt := 61) rfl rfl (ti_ne (show (a1 : Int32).toInt = a1.toInt from rfl) (show (0 : Int32).toInt = 0 by decide) ⟨fun c9 => ?_, fun c9 => ?_⟩)
          ·
            refine x_iloadn (x := a1) rfl rfl ?_
            refine x_iconst (v := 1) rfl ki_1 ?_
            refine x_icne (tgt := 73) rfl rfl (ti_ne (show (a1 : Int32).toInt = a1.toInt from rfl) (show (1 : Int32).toInt = 1 by decide) ⟨fun c10 => ?_, fun c10 => ?_⟩)
            ·
              refine x_iloadn (x := a1) rfl rfl ?_
              refine x_iconst (v := 2) rfl ki_2 ?_
              refine x_icne (tgt := 85) rfl rfl (ti_ne (show (a1 : Int32).toInt = a1.toInt from rfl) (show (2 : Int32).toInt = 2 by decide) ⟨fun c11 => ?_, fun c11 => ?_⟩)
              ·
                refine x_aloadn (x := 125) rfl rfl ?_
                refine y_getI (v := 1) 12 46 rfl f_12_463 rfl (congrArg Prod.fst (sh_si (sh_si (sh_si (sh_si (sh_si (sh_si (sh_si (sh_si (sh_si (sh_si (sh_si (sh_si (sh_si (sh_si (sh_si (sh_si (sh_si (sh_si (sh_si (sh_si (sh_si (sh_si (sh_si (sh_si (sh_si (sh_si (sh_si (sh_si (sh_si (F.1 125 (12, 92) rfl rfl))))))))))))))))))))))))))))))) iv_eq ?_
                refine x_iret rfl rfl ?_
                exact jqe (show sp_best a1 a2 = 1 by unfold sp_best; (repeat' split) <;> first | rfl | (exfalso; omega)) (hQ _ (jOl_si rfl (jOl_si rfl (jOl_si rfl (jOl_si rfl (jOl_si rfl (jOl_si rfl (jOl_si rfl (jOl_si rfl (jOl_si rfl (jOl_si rfl (jOl_si rfl (jOl_si rfl (jOl_si rfl (jOl_si rfl (jOl_si rfl (jOl_si rfl (jOl_si rfl (jOl_si rfl (jOl_si rfl (jOl_si rfl (jOl_si rfl (jOl_si rfl (jOl_si rfl (jOl_si rfl (jOl_si rfl (jOl_si rfl (jOl_si rfl (jOl_si rfl (jOl_si rfl O))))))))))))))))))))))))))))))
              ·
                exfalso
                omega
            ·
              exfalso
              omega
          ·
            exfalso
            omega
      ·
        refine x_iconst (v := (-1)) rfl ki_m1 ?_
        refine x_iret rfl rfl ?_
        exact jqe (show sp_best a1 a2 = (-1) by unfold sp_best; (repeat' split) <;> first | rfl | (exfalso; omega)) (hQ _ (jOl_si rfl O))
def sp_group (a1 : Int32) : Int32 := (-1)
set_option maxRecDepth 100000 in
set_option maxHeartbeats 40000000 in
theorem px_group (a1 : Int32) {xs : Nat → Int32} {h : jH} {Q : Option Value → jH → Prop} (F : jFb 31 h) (O : jOl 7 xs h) (hQ : ∀ h', jFb 125 h' → jOl 7 xs h' → Q (some (.int (sp_group a1))) h') : jC m_X11_group 100 0 0 [.ref 31, .int a1] h Q := by
  have FM := jFb_up 125 rfl F
  refine jC.of rfl k_X11_group rfl ?_
  show jX m_X11_group 100 0 0 0 [(0, .ref 31), (1, .int a1)] [] _ 0 0 _
  refine x_iloadn (x := a1) rfl rfl ?_
  refine x_iflt (tgt := 15) rfl rfl (ti_lt (show (a1 : Int32).toInt = a1.toInt from rfl) (show (0 : Int32).toInt = 0 by decide) ⟨fun c1 => ?_, fun c1 => ?_⟩)
  ·
    refine x_iconst (v := (-1)) rfl ki_m1 ?_
    refine x_iret rfl rfl ?_
    exact jqe (show sp_group a1 = (-1) by unfold sp_group; (repeat' split) <;> first | rfl | (exfalso; omega)) (hQ _ FM O)
  ·
    refine x_iloadn (x := a1) rfl rfl ?_
    refine x_aloadn (x := 31) rfl rfl ?_
    refine x_getR (b := 87) 11 5 rfl f_11_50 rfl (congrArg Prod.fst (F.1 31 (11, 13) rfl rfl)) (F.2.1 3973 87 rfl rfl) ?_
    refine y_getI (v := 0) 3 3 rfl f_11_273 rfl (congrArg Prod.fst (F.1 87 (3, 14) rfl rfl)) (F.2.2.1 11139 0 rfl rfl) ?_
    refine x_iclt (tgt := 17) rfl rfl (ti_lt (show (a1 : Int32).toInt = a1.toInt from rfl) (show (0 : Int32).toInt = 0 by decide) (br_f c1 ?_))
    refine x_iconst (v := (-1)) rfl ki_m1 ?_
    refine x_iret rfl rfl ?_
    exact jqe (show sp_group a1 = (-1) by unfold sp_group; (repeat' split) <;> first | rfl | (exfalso; omega)) (hQ _ FM O)
set_option maxRecDepth 100000 in
set_option maxHeartbeats 40000000 in
theorem pm_group (a1 : Int32) {xs : Nat → Int32} {h : jH} {Q : Option Value → jH → Prop} (F : jFb 125 h) (O : jOl 7 xs h) (hQ : ∀ h', jOl 7 xs h' → Q (some (.int (sp_group a1))) h') : jC m_X12_group 100 0 0 [.ref 125, .int a1] h Q := by
  refine jC.of rfl k_X12_group rfl ?_
  show jX m_X12_group 100 0 0 0 [(0, .ref 125), (1, .int a1)] [] _ 0 0 _
  refine x_aloadn (x := 125) rfl rfl ?_
  refine x_iconst (v := 0) rfl ki_0 ?_
  refine x_putI 12 0 rfl f_12_180 rfl (jfin_no TX12 RX12 92 rfl rfl) (congrArg Prod.fst (F.1 125 (12, 92) rfl rfl)) rfl ?_
  refine x_iloadn (x := a1) rfl rfl ?_
  refine x_i2l rfl ?_
  refine x_lconst (v := 0) rfl kl_0 ?_
  refine x_aloadn (x := 125) rfl rfl ?_
  refine y_getI (v := 0) 12 36 rfl f_12_204 rfl (congrArg Prod.fst (sh_si (F.1 125 (12, 92) rfl rfl))) (iv_si rfl (F.2.2.1 16036 0 rfl rfl)) ?_
  refine y_i2l (v := 0) rfl (by decide) ?_
  refine x_lconst (v := 1) rfl kl_1 ?_
  refine y_lsub (v := (-1)) rfl (by decide) ?_
  refine x_inst (N := m_X12_in) (As := [.long (a1.toInt64), .long 0, .long (-1)]) (st := []) (d' := 99) (mc := 0) (ms := 0) (host := "") rfl t_X12_in ⟨Or.inl q_12_188, s_X12_in⟩ rfl (by decide) rfl rfl ⟨by decide, by decide⟩ (c_X12_in (m := a1.toInt) (a := 0) (b := (-1)) (jt_l _) (by decide) (by decide) ?_)
  show jX m_X12_group 100 0 0 18 [(0, .ref 125), (1, .int a1)] [.int (jp (0 ≤ a1.toInt ∧ a1.toInt ≤ (-1)))] _ 0 0 _
  refine x_ifne (tgt := 23) rfl rfl (jpn ⟨fun c1 => ?_, fun c1 => ?_⟩)
  ·
    exfalso
    omega
  ·
    refine x_iconst (v := (-1)) rfl ki_m1 ?_
    refine x_iret rfl rfl ?_
    exact jqe (show sp_group a1 = (-1) by unfold sp_group; (repeat' split) <;> first | rfl | (exfalso; omega)) (hQ _ (jOl_si rfl O))
def sp_join (a1 : Int32) : Int32 := if (0 ≤ a1.toInt ∧ a1.toInt ≤ 146399) then 0 else (-1)
set_option maxRecDepth 100000 in
set_option maxHeartbeats 40000000 in
theorem px_join (a1 : Int32) {xs : Nat → Int32} {h : jH} {Q : Option Value → jH → Prop} (F : jFb 31 h) (O : jOl 7 xs h) (hQ : ∀ h', jFb 125 h' → jOl 7 xs h' → Q (some (.int (sp_join a1))) h') : jC m_X11_join 100 0 0 [.ref 31, .int a1] h Q := by
  have FM := jFb_up 125 rfl F
  refine jC.of rfl k_X11_join rfl ?_
  show jX m_X11_join 100 0 0 0 [(0, .ref 31), (1, .int a1)] [] _ 0 0 _
  refine x_iloadn (x := a1) rfl rfl ?_
  refine x_inst (N := m_X11_isDay) (As := [.int a1]) (st := []) (d' := 99) (mc := 0) (ms := 0) (host := "") rfl t_X11_isDay ⟨Or.inl q_11_115, s_X11_isDay⟩ rfl (by decide) rfl rfl ⟨by decide, by decide⟩ (c_X11_isDay (x := a1) ?_)
  show jX m_X11_join 100 0 0 4 [(0, .ref 31), (1, .int a1)] [.int (jp (0 ≤ a1.toInt ∧ a1.toInt ≤ 146399))] _ 0 0 _
  refine x_ifne (tgt := 13) rfl rfl (jpn ⟨fun c1 => ?_, fun c1 => ?_⟩)
  ·
    refine x_aloadn (x := 31) rfl rfl ?_
    refine x_getR (b := 78) 11 4 rfl f_11_41 rfl (congrArg Prod.fst (F.1 31 (11, 13) rfl rfl)) (F.2.1 3972 78 rfl rfl) ?_
    refine x_ldc (v := 146399) rfl z_11_233 ?_
    refine x_inv (N := m_X7_asKnown) (As := [.int 146399]) (b := 78) (st := []) (d' := 99) (mc := 0) (ms := 0) (host := "") 7 rfl t_X7_asKnown ⟨Or.inl q_11_240, i_X7_asKnown.1, i_X7_asKnown.2⟩ ⟨by decide, rfl⟩ (congrArg Prod.fst (F.1 78 (7, 16) rfl rfl)) rfl (by decide) rfl rfl ⟨by decide, by decide⟩ (jC.of rfl k_X7_asKnown rfl ?_)
    show jX m_X7_asKnown 99 0 0 0 [(0, .ref 78), (1, .int 146399)] [] _ 0 0 _
    refine x_aloadn (x := 78) rfl rfl ?_
    refine x_getR (b := 86) 7 15 rfl f_7_52 rfl (congrArg Prod.fst (F.1 78 (7, 16) rfl rfl)) (F.2.1 9999 86 rfl rfl) ?_
    refine x_iloadn (x := 146399) rfl rfl ?_
    refine x_iconst (v := 0) rfl ki_0 ?_
    refine x_aloadn (x := 78) rfl rfl ?_
    refine x_getR (b := 32) 7 0 rfl f_7_55 rfl (congrArg Prod.fst (F.1 78 (7, 16) rfl rfl)) (F.2.1 9984 32 rfl rfl) ?_
    refine y_getI (v := 1) 1 19 rfl f_7_140 rfl (congrArg Prod.fst (F.1 32 (1, 20) rfl rfl)) (F.2.2.1 4115 1 rfl rfl) ?_
    refine x_inst (N := m_X11_isFresh) (As := [.ref 86, .int 146399, .int 0, .int 1]) (st := []) (d' := 98) (mc := 0) (ms := 0) (host := "ParishChest") rfl t_X11_isFresh ⟨Or.inr q_7_143, s_X11_isFresh⟩ rfl (by decide) rfl rfl ⟨by decide, by decide⟩ (jC.of rfl k_X11_isFresh rfl ?_)
    show jX m_X11_isFresh 98 0 0 0 [(0, .ref 86), (1, .int 146399), (2, .int 0), (3, .int 1)] [] _ 0 0 _
    refine x_aloadn (x := 86) rfl rfl ?_
    refine y_alen (N := 3) (v := 3) rfl (F.1 86 (100, 3) rfl rfl) (by decide) (by decide) ?_
    refine x_iconst (v := 3) rfl ki_3 ?_
    refine x_icge (tgt := 8) rfl rfl (br_t (by decide) ?_)
    refine x_aloadn (x := 86) rfl rfl ?_
    refine x_iconst (v := 0) rfl ki_0 ?_
    refine y_iald (v := 0) (N := 3) 0 rfl (F.1 86 (100, 3) rfl rfl) (jinb_of (by decide)) (by decide) (F.2.2.2.1 86 rfl rfl 0).1 ?_
    refine x_iloadn (x := 146399) rfl rfl ?_
    refine x_icne (tgt := 33) rfl rfl (bn_t (by decide) ?_)
    refine x_iconst (v := 0) rfl ki_0 ?_
    refine x_istore (ls' := [(4, .int 0), (0, .ref 86), (1, .int 146399), (2, .int 0), (3, .int 1)]) rfl rfl rfl ?_
    refine x_aloadn (x := 86) rfl rfl ?_
    refine x_iconst (v := 0) rfl ki_0 ?_
    refine x_iloadn (x := 146399) rfl rfl ?_
    refine y_iast (N := 3) 0 rfl (F.1 86 (100, 3) rfl rfl) rfl (jinb_of (by decide)) (by decide) ?_
    refine x_aloadn (x := 86) rfl rfl ?_
    refine x_iconst (v := 1) rfl ki_1 ?_
    refine x_iloadn (x := 0) rfl rfl ?_
    refine y_iast (N := 3) 1 rfl (sh_si (F.1 86 (100, 3) rfl rfl)) rfl (jinb_of (by decide)) (by decide) ?_
    refine x_aloadn (x := 86) rfl rfl ?_
    refine x_iconst (v := 2) rfl ki_2 ?_
    refine x_iloadn (x := 1) rfl rfl ?_
    refine y_iast (N := 3) 2 rfl (sh_si (sh_si (F.1 86 (100, 3) rfl rfl))) rfl (jinb_of (by decide)) (by decide) ?_
    refine x_iload (x := 0) rfl rfl ?_
    refine x_zret rfl rfl (by first | decide | exact jp_01 _) ?_
    show jX m_X7_asKnown 99 0 0 16 [(0, .ref 78), (1, .int 146399)] [.int 0] _ 0 0 _
    refine x_ifeq (tgt := 20) rfl rfl (br_t (by decide) ?_)
    refine x_iconst (v := 0) rfl ki_0 ?_
    refine x_istoren (ls' := [(2, .int 0), (0, .ref 78), (1, .int 146399)]) rfl rfl rfl ?_
    refine x_iloadn (x := 0) rfl rfl ?_
    refine x_aloadn (x := 78) rfl rfl ?_
    refine x_getR (b := 32) 7 0 rfl f_7_55 rfl (congrArg Prod.fst (sh_si (sh_si (sh_si (F.1 78 (7, 16) rfl rfl))))) (rv_si (rv_si (rv_si (F.2.1 9984 32 rfl rfl)))) ?_
    refine x_getR (b := 33) 1 0 rfl f_7_63 rfl (congrArg Prod.fst (sh_si (sh_si (sh_si (F.1 32 (1, 20) rfl rfl))))) (rv_si (rv_si (rv_si (F.2.1 4096 33 rfl rfl)))) ?_
    refine y_getI (v := 0) 8 3 rfl f_7_85 rfl (congrArg Prod.fst (sh_si (sh_si (sh_si (F.1 33 (8, 4) rfl rfl))))) (iv_si rfl (iv_si rfl (iv_si rfl (F.2.2.1 4227 0 rfl rfl)))) ?_
    refine x_iconst (v := 3) rfl ki_3 ?_
    refine y_imul (v := 0) rfl (by decide) ?_
    refine x_icge (tgt := 96) rfl rfl (br_t (by decide) ?_)
    refine x_aloadn (x := 78) rfl rfl ?_
    refine x_iconst (v := 0) rfl ki_0 ?_
    refine x_putI 7 13 rfl f_7_46 rfl (jfin_no TX7 RX7 16 rfl rfl) (congrArg Prod.fst (sh_si (sh_si (sh_si (F.1 78 (7, 16) rfl rfl))))) rfl ?_
    refine x_iconst (v := 0) rfl ki_0 ?_
    refine x_istoren (ls' := [(2, .int 0), (0, .ref 78), (1, .int 146399)]) rfl rfl rfl ?_
    refine x_iloadn (x := 0) rfl rfl ?_
    refine x_aloadn (x := 78) rfl rfl ?_
    refine x_getR (b := 32) 7 0 rfl f_7_55 rfl (congrArg Prod.fst (sh_si (sh_si (sh_si (sh_si (F.1 78 (7, 16) rfl rfl)))))) (rv_si (rv_si (rv_si (rv_si (F.2.1 9984 32 rfl rfl))))) ?_
    refine x_getR (b := 39) 1 3 rfl f_7_150 rfl (congrArg Prod.fst (sh_si (sh_si (sh_si (sh_si (F.1 32 (1, 20) rfl rfl)))))) (rv_si (rv_si (rv_si (rv_si (F.2.1 4099 39 rfl rfl))))) ?_
    refine y_getI (v := 0) 8 3 rfl f_7_85 rfl (congrArg Prod.fst (sh_si (sh_si (sh_si (sh_si (F.1 39 (8, 4) rfl rfl)))))) (iv_si rfl (iv_si rfl (iv_si rfl (iv_si rfl (F.2.2.1 4995 0 rfl rfl))))) ?_
    refine x_icge (tgt := 175) rfl rfl (br_t (by decide) ?_)
    refine x_vret rfl rfl ?_
    show jX m_X11_join 100 0 0 22 [(0, .ref 31), (1, .int a1)] [] _ 0 0 _
    refine x_aloadn (x := 31) rfl rfl ?_
    refine x_getR (b := 87) 11 5 rfl f_11_50 rfl (congrArg Prod.fst (sh_si (sh_si (sh_si (sh_si (F.1 31 (11, 13) rfl rfl)))))) (rv_si (rv_si (rv_si (rv_si (F.2.1 3973 87 rfl rfl))))) ?_
    refine x_inv (N := m_X3_settle) (As := []) (b := 87) (st := []) (d' := 99) (mc := 0) (ms := 0) (host := "") 3 rfl t_X3_settle ⟨Or.inl q_11_282, i_X3_settle.1, i_X3_settle.2⟩ ⟨by decide, rfl⟩ (congrArg Prod.fst (sh_si (sh_si (sh_si (sh_si (F.1 87 (3, 14) rfl rfl)))))) rfl (by decide) rfl rfl ⟨by decide, by decide⟩ (jC.of rfl k_X3_settle rfl ?_)
    show jX m_X3_settle 99 0 0 0 [(0, .ref 87)] [] _ 0 0 _
    refine x_aloadn (x := 87) rfl rfl ?_
    refine y_getI (v := 0) 3 13 rfl f_3_46 rfl (congrArg Prod.fst (sh_si (sh_si (sh_si (sh_si (F.1 87 (3, 14) rfl rfl)))))) (iv_si rfl (iv_si rfl (iv_si rfl (iv_si rfl (F.2.2.1 11149 0 rfl rfl))))) ?_
    refine x_aloadn (x := 87) rfl rfl ?_
    refine x_getR (b := 32) 3 0 rfl f_3_49 rfl (congrArg Prod.fst (sh_si (sh_si (sh_si (sh_si (F.1 87 (3, 14) rfl rfl)))))) (rv_si (rv_si (rv_si (rv_si (F.2.1 11136 32 rfl rfl))))) ?_
    refine y_getI (v := 1) 1 19 rfl f_3_72 rfl (congrArg Prod.fst (sh_si (sh_si (sh_si (sh_si (F.1 32 (1, 20) rfl rfl)))))) (iv_si rfl (iv_si rfl (iv_si rfl (iv_si rfl (F.2.2.1 4115 1 rfl rfl))))) ?_
    refine x_icne (tgt := 15) rfl rfl (bn_t (by decide) ?_)
    refine x_aloadn (x := 87) rfl rfl ?_
    refine x_aloadn (x := 87) rfl rfl ?_
    refine x_getR (b := 32) 3 0 rfl f_3_49 rfl (congrArg Prod.fst (sh_si (sh_si (sh_si (sh_si (F.1 87 (3, 14) rfl rfl)))))) (rv_si (rv_si (rv_si (rv_si (F.2.1 11136 32 rfl rfl))))) ?_
    refine y_getI (v := 1) 1 19 rfl f_3_72 rfl (congrArg Prod.fst (sh_si (sh_si (sh_si (sh_si (F.1 32 (1, 20) rfl rfl)))))) (iv_si rfl (iv_si rfl (iv_si rfl (iv_si rfl (F.2.2.1 4115 1 rfl rfl))))) ?_
    refine x_putI 3 13 rfl f_3_46 rfl (jfin_no TX3 RX3 14 rfl rfl) (congrArg Prod.fst (sh_si (sh_si (sh_si (sh_si (F.1 87 (3, 14) rfl rfl)))))) rfl ?_
    refine x_aloadn (x := 87) rfl rfl ?_
    refine x_inv (N := m_X3_weighPairs) (As := []) (b := 87) (st := []) (d' := 98) (mc := 0) (ms := 0) (host := "") 3 rfl t_X3_weighPairs ⟨Or.inl q_3_77, i_X3_weighPairs.1, i_X3_weighPairs.2⟩ ⟨by decide, rfl⟩ (congrArg Prod.fst (sh_si (sh_si (sh_si (sh_si (sh_si (F.1 87 (3, 14) rfl rfl))))))) rfl (by decide) rfl rfl ⟨by decide, by decide⟩ (jC.of rfl k_X3_weighPairs rfl ?_)
    show jX m_X3_weighPairs 98 0 0 0 [(0, .ref 87)] [] _ 0 0 _
    refine x_aloadn (x := 87) rfl rfl ?_
    refine x_iconst (v := 0) rfl ki_0 ?_
    refine x_putI 3 12 rfl f_3_43 rfl (jfin_no TX3 RX3 14 rfl rfl) (congrArg Prod.fst (sh_si (sh_si (sh_si (sh_si (sh_si (F.1 87 (3, 14) rfl rfl))))))) rfl ?_
    refine x_iconst (v := 0) rfl ki_0 ?_
    refine x_istoren (ls' := [(1, .int 0), (0, .ref 87)]) rfl rfl rfl ?_
    refine x_iloadn (x := 0) rfl rfl ?_
    refine x_aloadn (x := 87) rfl rfl ?_
    refine y_getI (v := 0) 3 3 rfl f_3_15 rfl (congrArg Prod.fst (sh_si (sh_si (sh_si (sh_si (sh_si (sh_si (F.1 87 (3, 14) rfl rfl)))))))) (iv_si rfl (iv_si rfl (iv_si rfl (iv_si rfl (iv_si rfl (iv_si rfl (F.2.2.1 11139 0 rfl rfl))))))) ?_
    refine x_icge (tgt := 123) rfl rfl (br_t (by decide) ?_)
    refine x_vret rfl rfl ?_
    show jX m_X3_settle 99 0 0 30 [(0, .ref 87)] [] _ 0 0 _
    refine x_iconst (v := 0) rfl ki_0 ?_
    refine x_istoren (ls' := [(1, .int 0), (0, .ref 87)]) rfl rfl rfl ?_
    refine x_iloadn (x := 0) rfl rfl ?_
    refine x_aloadn (x := 87) rfl rfl ?_
    refine y_getI (v := 0) 3 12 rfl f_3_43 rfl (congrArg Prod.fst (sh_si (sh_si (sh_si (sh_si (sh_si (sh_si (F.1 87 (3, 14) rfl rfl)))))))) iv_eq ?_
    refine x_icgt (tgt := 62) rfl rfl (br_f (by decide) ?_)
    refine x_iloadn (x := 0) rfl rfl ?_
    refine x_aloadn (x := 87) rfl rfl ?_
    refine x_getR (b := 94) 3 9 rfl f_3_34 rfl (congrArg Prod.fst (sh_si (sh_si (sh_si (sh_si (sh_si (sh_si (F.1 87 (3, 14) rfl rfl)))))))) (rv_si (rv_si (rv_si (rv_si (rv_si (rv_si (F.2.1 11145 94 rfl rfl))))))) ?_
    refine y_alen (N := 14401) (v := 14401) rfl (sh_si (sh_si (sh_si (sh_si (sh_si (sh_si (F.1 94 (100, 14401) rfl rfl))))))) (by decide) (by decide) ?_
    refine x_icge (tgt := 62) rfl rfl (br_f (by decide) ?_)
    refine x_aloadn (x := 87) rfl rfl ?_
    refine x_getR (b := 94) 3 9 rfl f_3_34 rfl (congrArg Prod.fst (sh_si (sh_si (sh_si (sh_si (sh_si (sh_si (F.1 87 (3, 14) rfl rfl)))))))) (rv_si (rv_si (rv_si (rv_si (rv_si (rv_si (F.2.1 11145 94 rfl rfl))))))) ?_
    refine x_iloadn (x := 0) rfl rfl ?_
    refine x_iconst (v := 0) rfl ki_0 ?_
    refine y_iast (N := 14401) 0 rfl (sh_si (sh_si (sh_si (sh_si (sh_si (sh_si (F.1 94 (100, 14401) rfl rfl))))))) rfl (jinb_of (by decide)) (by decide) ?_
    refine x_iinc (x := 0) (v := 1) (ls' := [(1, .int 1), (0, .ref 87)]) rfl rfl (by decide) rfl rfl ?_
    refine x_goto (tgt := 32) rfl rfl ?_
    refine x_iloadn (x := 1) rfl rfl ?_
    refine x_aloadn (x := 87) rfl rfl ?_
    refine y_getI (v := 0) 3 12 rfl f_3_43 rfl (congrArg Prod.fst (sh_si (sh_si (sh_si (sh_si (sh_si (sh_si (sh_si (F.1 87 (3, 14) rfl rfl))))))))) (iv_si rfl iv_eq) ?_
    refine x_icgt (tgt := 62) rfl rfl (br_t (by decide) ?_)
    refine x_aloadn (x := 87) rfl rfl ?_
    refine x_iconst (v := (-1)) rfl ki_m1 ?_
    refine x_putI 3 10 rfl f_3_37 rfl (jfin_no TX3 RX3 14 rfl rfl) (congrArg Prod.fst (sh_si (sh_si (sh_si (sh_si (sh_si (sh_si (sh_si (F.1 87 (3, 14) rfl rfl))))))))) rfl ?_
    refine x_aloadn (x := 87) rfl rfl ?_
    refine x_iconst (v := 0) rfl ki_0 ?_
    refine x_putI 3 11 rfl f_3_40 rfl (jfin_no TX3 RX3 14 rfl rfl) (congrArg Prod.fst (sh_si (sh_si (sh_si (sh_si (sh_si (sh_si (sh_si (sh_si (F.1 87 (3, 14) rfl rfl)))))))))) rfl ?_
    refine x_aloadn (x := 87) rfl rfl ?_
    refine x_iconst (v := 0) rfl ki_0 ?_
    refine x_iconst (v := 0) rfl ki_0 ?_
    refine x_iconst (v := 0) rfl ki_0 ?_
    refine x_inv (N := m_X3_place) (As := [.int 0, .int 0, .int 0]) (b := 87) (st := []) (d' := 98) (mc := 0) (ms := 0) (host := "") 3 rfl t_X3_place ⟨Or.inl q_3_80, i_X3_place.1, i_X3_place.2⟩ ⟨by decide, rfl⟩ (congrArg Prod.fst (sh_si (sh_si (sh_si (sh_si (sh_si (sh_si (sh_si (sh_si (sh_si (F.1 87 (3, 14) rfl rfl))))))))))) rfl (by decide) rfl rfl ⟨by decide, by decide⟩ (jC.of rfl k_X3_place rfl ?_)
    show jX m_X3_place 98 0 0 0 [(0, .ref 87), (1, .int 0), (2, .int 0), (3, .int 0)] [] _ 0 0 _
    refine x_iloadn (x := 0) rfl rfl ?_
    refine x_iflt (tgt := 18) rfl rfl (br_f (by decide) ?_)
    refine x_iloadn (x := 0) rfl rfl ?_
    refine x_aloadn (x := 87) rfl rfl ?_
    refine y_getI (v := 0) 3 3 rfl f_3_15 rfl (congrArg Prod.fst (sh_si (sh_si (sh_si (sh_si (sh_si (sh_si (sh_si (sh_si (sh_si (F.1 87 (3, 14) rfl rfl))))))))))) (iv_si rfl (iv_si rfl (iv_si rfl (iv_si rfl (iv_si rfl (iv_si rfl (iv_si rfl (iv_si rfl (iv_si rfl (F.2.2.1 11139 0 rfl rfl)))))))))) ?_
    refine x_icge (tgt := 18) rfl rfl (br_t (by decide) ?_)
    refine x_aloadn (x := 87) rfl rfl ?_
    refine x_iloadn (x := 0) rfl rfl ?_
    refine x_iloadn (x := 0) rfl rfl ?_
    refine x_inv (N := m_X3_note) (As := [.int 0, .int 0]) (b := 87) (st := []) (d' := 97) (mc := 0) (ms := 0) (host := "") 3 rfl t_X3_note ⟨Or.inl q_3_93, i_X3_note.1, i_X3_note.2⟩ ⟨by decide, rfl⟩ (congrArg Prod.fst (sh_si (sh_si (sh_si (sh_si (sh_si (sh_si (sh_si (sh_si (sh_si (F.1 87 (3, 14) rfl rfl))))))))))) rfl (by decide) rfl rfl ⟨by decide, by decide⟩ (jC.of rfl k_X3_note rfl ?_)
    show jX m_X3_note 97 0 0 0 [(0, .ref 87), (1, .int 0), (2, .int 0)] [] _ 0 0 _
    refine x_iloadn (x := 0) rfl rfl ?_
    refine x_iflt (tgt := 23) rfl rfl (br_f (by decide) ?_)
    refine x_iloadn (x := 0) rfl rfl ?_
    refine x_aloadn (x := 87) rfl rfl ?_
    refine x_getR (b := 94) 3 9 rfl f_3_34 rfl (congrArg Prod.fst (sh_si (sh_si (sh_si (sh_si (sh_si (sh_si (sh_si (sh_si (sh_si (F.1 87 (3, 14) rfl rfl))))))))))) (rv_si (rv_si (rv_si (rv_si (rv_si (rv_si (rv_si (rv_si (rv_si (F.2.1 11145 94 rfl rfl)))))))))) ?_
    refine y_alen (N := 14401) (v := 14401) rfl (sh_si (sh_si (sh_si (sh_si (sh_si (sh_si (sh_si (sh_si (sh_si (F.1 94 (100, 14401) rfl rfl)))))))))) (by decide) (by decide) ?_
    refine x_icge (tgt := 23) rfl rfl (br_f (by decide) ?_)
    refine x_aloadn (x := 87) rfl rfl ?_
    refine x_getR (b := 94) 3 9 rfl f_3_34 rfl (congrArg Prod.fst (sh_si (sh_si (sh_si (sh_si (sh_si (sh_si (sh_si (sh_si (sh_si (F.1 87 (3, 14) rfl rfl))))))))))) (rv_si (rv_si (rv_si (rv_si (rv_si (rv_si (rv_si (rv_si (rv_si (F.2.1 11145 94 rfl rfl)))))))))) ?_
    refine x_iloadn (x := 0) rfl rfl ?_
    refine x_dup2 rfl rfl rfl ?_
    refine y_iald (v := 0) (N := 14401) 0 rfl (sh_si (sh_si (sh_si (sh_si (sh_si (sh_si (sh_si (sh_si (sh_si (F.1 94 (100, 14401) rfl rfl)))))))))) (jinb_of (by decide)) (by decide) (iv_si rfl (iv_si rfl iv_eq)) ?_
    refine x_iconst (v := 1) rfl ki_1 ?_
    refine y_iadd (v := 1) rfl (by decide) ?_
    refine y_iast (N := 14401) 0 rfl (sh_si (sh_si (sh_si (sh_si (sh_si (sh_si (sh_si (sh_si (sh_si (F.1 94 (100, 14401) rfl rfl)))))))))) rfl (jinb_of (by decide)) (by decide) ?_
    refine x_iloadn (x := 0) rfl rfl ?_
    refine x_aloadn (x := 87) rfl rfl ?_
    refine y_getI (v := (-1)) 3 10 rfl f_3_37 rfl (congrArg Prod.fst (sh_si (sh_si (sh_si (sh_si (sh_si (sh_si (sh_si (sh_si (sh_si (sh_si (F.1 87 (3, 14) rfl rfl)))))))))))) (iv_si rfl (iv_si rfl iv_eq)) ?_
    refine x_icgt (tgt := 47) rfl rfl (br_t (by decide) ?_)
    refine x_aloadn (x := 87) rfl rfl ?_
    refine x_iloadn (x := 0) rfl rfl ?_
    refine x_putI 3 10 rfl f_3_37 rfl (jfin_no TX3 RX3 14 rfl rfl) (congrArg Prod.fst (sh_si (sh_si (sh_si (sh_si (sh_si (sh_si (sh_si (sh_si (sh_si (sh_si (F.1 87 (3, 14) rfl rfl)))))))))))) rfl ?_
    refine x_aloadn (x := 87) rfl rfl ?_
    refine x_iloadn (x := 0) rfl rfl ?_
    refine x_putI 3 11 rfl f_3_40 rfl (jfin_no TX3 RX3 14 rfl rfl) (congrArg Prod.fst (sh_si (sh_si (sh_si (sh_si (sh_si (sh_si (sh_si (sh_si (sh_si (sh_si (sh_si (F.1 87 (3, 14) rfl rfl))))))))))))) rfl ?_
    refine x_aloadn (x := 87) rfl rfl ?_
    refine x_getR (b := 91) 3 6 rfl f_3_25 rfl (congrArg Prod.fst (sh_si (sh_si (sh_si (sh_si (sh_si (sh_si (sh_si (sh_si (sh_si (sh_si (sh_si (sh_si (F.1 87 (3, 14) rfl rfl)))))))))))))) (rv_si (rv_si (rv_si (rv_si (rv_si (rv_si (rv_si (rv_si (rv_si (rv_si (rv_si (rv_si (F.2.1 11142 91 rfl rfl))))))))))))) ?_
    refine x_iconst (v := 0) rfl ki_0 ?_
    refine x_aloadn (x := 87) rfl rfl ?_
    refine x_getR (b := 92) 3 7 rfl f_3_28 rfl (congrArg Prod.fst (sh_si (sh_si (sh_si (sh_si (sh_si (sh_si (sh_si (sh_si (sh_si (sh_si (sh_si (sh_si (F.1 87 (3, 14) rfl rfl)))))))))))))) (rv_si (rv_si (rv_si (rv_si (rv_si (rv_si (rv_si (rv_si (rv_si (rv_si (rv_si (rv_si (F.2.1 11143 92 rfl rfl))))))))))))) ?_
    refine x_iconst (v := 0) rfl ki_0 ?_
    refine x_bipush (v := 9) rfl kb_9 ?_
    refine y_cpi (N1 := 9) (N2 := 9) 0 0 9 rfl ⟨q_3_100, jcp_w⟩ (by decide) rfl rfl rfl (sh_si (sh_si (sh_si (sh_si (sh_si (sh_si (sh_si (sh_si (sh_si (sh_si (sh_si (sh_si (F.1 91 (100, 9) rfl rfl))))))))))))) (sh_si (sh_si (sh_si (sh_si (sh_si (sh_si (sh_si (sh_si (sh_si (sh_si (sh_si (sh_si (F.1 92 (100, 9) rfl rfl))))))))))))) (by decide) (by decide) (by decide) (by decide) (by decide) (by decide) (by decide) (by decide) ?_
    refine x_vret rfl rfl ?_
    show jX m_X3_place 98 0 0 24 [(0, .ref 87), (1, .int 0), (2, .int 0), (3, .int 0)] [] _ 0 0 _
    refine x_vret rfl rfl ?_
    show jX m_X3_settle 99 0 0 79 [(1, .int 1), (0, .ref 87)] [] _ 0 0 _
    refine x_vret rfl rfl ?_
    show jX m_X11_join 100 0 0 29 [(0, .ref 31), (1, .int a1)] [] _ 0 0 _
    refine x_iconst (v := 0) rfl ki_0 ?_
    refine x_istoren (ls' := [(2, .int 0), (0, .ref 31), (1, .int a1)]) rfl rfl rfl ?_
    refine x_iconst (v := 0) rfl ki_0 ?_
    refine x_istoren (ls' := [(3, .int 0), (2, .int 0), (0, .ref 31), (1, .int a1)]) rfl rfl rfl ?_
    refine x_iloadn (x := 0) rfl rfl ?_
    refine x_aloadn (x := 31) rfl rfl ?_
    refine x_getR (b := 87) 11 5 rfl f_11_50 rfl (congrArg Prod.fst (sh_ci (sh_si (sh_si (sh_si (sh_si (sh_si (sh_si (sh_si (sh_si (sh_si (sh_si (sh_si (sh_si (F.1 31 (11, 13) rfl rfl))))))))))))))) (rv_ci (rv_si (rv_si (rv_si (rv_si (rv_si (rv_si (rv_si (rv_si (rv_si (rv_si (rv_si (rv_si (F.2.1 3973 87 rfl rfl)))))))))))))) ?_
    refine y_getI (v := 0) 3 3 rfl f_11_273 rfl (congrArg Prod.fst (sh_ci (sh_si (sh_si (sh_si (sh_si (sh_si (sh_si (sh_si (sh_si (sh_si (sh_si (sh_si (sh_si (F.1 87 (3, 14) rfl rfl))))))))))))))) (iv_ci rfl (iv_si rfl (iv_si rfl (iv_si rfl (iv_si rfl (iv_si rfl (iv_si rfl (iv_si rfl (iv_si rfl (iv_si rfl (iv_si rfl (iv_si rfl (iv_si rfl (F.2.2.1 11139 0 rfl rfl)))))))))))))) ?_
    refine x_icge (tgt := 64) rfl rfl (br_t (by decide) ?_)
    refine x_aloadn (x := 31) rfl rfl ?_
    refine x_getR (b := 32) 11 0 rfl f_11_10 rfl (congrArg Prod.fst (sh_ci (sh_si (sh_si (sh_si (sh_si (sh_si (sh_si (sh_si (sh_si (sh_si (sh_si (sh_si (sh_si (F.1 31 (11, 13) rfl rfl))))))))))))))) (rv_ci (rv_si (rv_si (rv_si (rv_si (rv_si (rv_si (rv_si (rv_si (rv_si (rv_si (rv_si (rv_si (F.2.1 3968 32 rfl rfl)))))))))))))) ?_
    refine x_getR (b := 39) 1 3 rfl f_11_237 rfl (congrArg Prod.fst (sh_ci (sh_si (sh_si (sh_si (sh_si (sh_si (sh_si (sh_si (sh_si (sh_si (sh_si (sh_si (sh_si (F.1 32 (1, 20) rfl rfl))))))))))))))) (rv_ci (rv_si (rv_si (rv_si (rv_si (rv_si (rv_si (rv_si (rv_si (rv_si (rv_si (rv_si (rv_si (F.2.1 4099 39 rfl rfl)))))))))))))) ?_
    refine y_getI (v := 0) 8 3 rfl f_11_142 rfl (congrArg Prod.fst (sh_ci (sh_si (sh_si (sh_si (sh_si (sh_si (sh_si (sh_si (sh_si (sh_si (sh_si (sh_si (sh_si (F.1 39 (8, 4) rfl rfl))))))))))))))) (iv_ci rfl (iv_si rfl (iv_si rfl (iv_si rfl (iv_si rfl (iv_si rfl (iv_si rfl (iv_si rfl (iv_si rfl (iv_si rfl (iv_si rfl (iv_si rfl (iv_si rfl (F.2.2.1 4995 0 rfl rfl)))))))))))))) ?_
    refine x_iloadn (x := 0) rfl rfl ?_
    refine y_iadd (v := 0) rfl (by decide) ?_
    refine x_aloadn (x := 31) rfl rfl ?_
    refine x_getR (b := 32) 11 0 rfl f_11_10 rfl (congrArg Prod.fst (sh_ci (sh_si (sh_si (sh_si (sh_si (sh_si (sh_si (sh_si (sh_si (sh_si (sh_si (sh_si (sh_si (F.1 31 (11, 13) rfl rfl))))))))))))))) (rv_ci (rv_si (rv_si (rv_si (rv_si (rv_si (rv_si (rv_si (rv_si (rv_si (rv_si (rv_si (rv_si (F.2.1 3968 32 rfl rfl)))))))))))))) ?_
    refine x_getR (b := 39) 1 3 rfl f_11_237 rfl (congrArg Prod.fst (sh_ci (sh_si (sh_si (sh_si (sh_si (sh_si (sh_si (sh_si (sh_si (sh_si (sh_si (sh_si (sh_si (F.1 32 (1, 20) rfl rfl))))))))))))))) (rv_ci (rv_si (rv_si (rv_si (rv_si (rv_si (rv_si (rv_si (rv_si (rv_si (rv_si (rv_si (rv_si (F.2.1 4099 39 rfl rfl)))))))))))))) ?_
    refine y_getI (v := 200) 8 1 rfl f_11_303 rfl (congrArg Prod.fst (sh_ci (sh_si (sh_si (sh_si (sh_si (sh_si (sh_si (sh_si (sh_si (sh_si (sh_si (sh_si (sh_si (F.1 39 (8, 4) rfl rfl))))))))))))))) (iv_ci rfl (iv_si rfl (iv_si rfl (iv_si rfl (iv_si rfl (iv_si rfl (iv_si rfl (iv_si rfl (iv_si rfl (iv_si rfl (iv_si rfl (iv_si rfl (iv_si rfl (F.2.2.1 4993 200 rfl rfl)))))))))))))) ?_
    refine x_icle (tgt := 96) rfl rfl (br_t (by decide) ?_)
    refine x_iconst (v := 0) rfl ki_0 ?_
    refine x_istoren (ls' := [(3, .int 0), (2, .int 0), (0, .ref 31), (1, .int a1)]) rfl rfl rfl ?_
    refine x_iloadn (x := 0) rfl rfl ?_
    refine x_aloadn (x := 31) rfl rfl ?_
    refine x_getR (b := 87) 11 5 rfl f_11_50 rfl (congrArg Prod.fst (sh_ci (sh_si (sh_si (sh_si (sh_si (sh_si (sh_si (sh_si (sh_si (sh_si (sh_si (sh_si (sh_si (F.1 31 (11, 13) rfl rfl))))))))))))))) (rv_ci (rv_si (rv_si (rv_si (rv_si (rv_si (rv_si (rv_si (rv_si (rv_si (rv_si (rv_si (rv_si (F.2.1 3973 87 rfl rfl)))))))))))))) ?_
    refine y_getI (v := 0) 3 3 rfl f_11_273 rfl (congrArg Prod.fst (sh_ci (sh_si (sh_si (sh_si (sh_si (sh_si (sh_si (sh_si (sh_si (sh_si (sh_si (sh_si (sh_si (F.1 87 (3, 14) rfl rfl))))))))))))))) (iv_ci rfl (iv_si rfl (iv_si rfl (iv_si rfl (iv_si rfl (iv_si rfl (iv_si rfl (iv_si rfl (iv_si rfl (iv_si rfl (iv_si rfl (iv_si rfl (iv_si rfl (F.2.2.1 11139 0 rfl rfl)))))))))))))) ?_
    refine x_icge (tgt := 163) rfl rfl (br_t (by decide) ?_)
    refine x_aloadn (x := 31) rfl rfl ?_
    refine x_iloadn (x := 0) rfl rfl ?_
    refine x_inv (N := m_X11_accept) (As := [.int 0]) (b := 31) (st := []) (d' := 99) (mc := 0) (ms := 0) (host := "") 11 rfl t_X11_accept ⟨Or.inl q_11_165, i_X11_accept.1, i_X11_accept.2⟩ ⟨by decide, rfl⟩ (congrArg Prod.fst (sh_ci (sh_si (sh_si (sh_si (sh_si (sh_si (sh_si (sh_si (sh_si (sh_si (sh_si (sh_si (sh_si (F.1 31 (11, 13) rfl rfl))))))))))))))) rfl (by decide) rfl rfl ⟨by decide, by decide⟩ (jC.of rfl k_X11_accept rfl ?_)
    show jX m_X11_accept 99 0 0 0 [(0, .ref 31), (1, .int 0)] [] _ 0 0 _
    refine x_aloadn (x := 31) rfl rfl ?_
    refine x_iconst (v := 0) rfl ki_0 ?_
    refine x_putI 11 12 rfl f_11_94 rfl (jfin_no TX11 RX11 13 rfl rfl) (congrArg Prod.fst (sh_ci (sh_si (sh_si (sh_si (sh_si (sh_si (sh_si (sh_si (sh_si (sh_si (sh_si (sh_si (sh_si (F.1 31 (11, 13) rfl rfl))))))))))))))) rfl ?_
    refine x_aloadn (x := 31) rfl rfl ?_
    refine x_getR (b := 32) 11 0 rfl f_11_10 rfl (congrArg Prod.fst (sh_si (sh_ci (sh_si (sh_si (sh_si (sh_si (sh_si (sh_si (sh_si (sh_si (sh_si (sh_si (sh_si (sh_si (F.1 31 (11, 13) rfl rfl)))))))))))))))) (rv_si (rv_ci (rv_si (rv_si (rv_si (rv_si (rv_si (rv_si (rv_si (rv_si (rv_si (rv_si (rv_si (rv_si (F.2.1 3968 32 rfl rfl))))))))))))))) ?_
    refine x_dup rfl rfl ?_
    refine y_getI (v := 1) 1 19 rfl f_11_528 rfl (congrArg Prod.fst (sh_si (sh_ci (sh_si (sh_si (sh_si (sh_si (sh_si (sh_si (sh_si (sh_si (sh_si (sh_si (sh_si (sh_si (F.1 32 (1, 20) rfl rfl)))))))))))))))) (iv_si rfl (iv_ci rfl (iv_si rfl (iv_si rfl (iv_si rfl (iv_si rfl (iv_si rfl (iv_si rfl (iv_si rfl (iv_si rfl (iv_si rfl (iv_si rfl (iv_si rfl (iv_si rfl (F.2.2.1 4115 1 rfl rfl))))))))))))))) ?_
    refine x_iconst (v := 1) rfl ki_1 ?_
    refine y_iadd (v := 2) rfl (by decide) ?_
    refine x_putI 1 19 rfl f_11_528 rfl (jfin_no TX1 RX1 20 rfl rfl) (congrArg Prod.fst (sh_si (sh_ci (sh_si (sh_si (sh_si (sh_si (sh_si (sh_si (sh_si (sh_si (sh_si (sh_si (sh_si (sh_si (F.1 32 (1, 20) rfl rfl)))))))))))))))) rfl ?_
    refine x_iloadn (x := 0) rfl rfl ?_
    refine x_iret rfl rfl ?_
    show jX m_X11_join 100 0 0 168 [(3, .int 0), (2, .int 0), (0, .ref 31), (1, .int a1)] [.int 0] _ 0 0 _
    refine x_iret rfl rfl ?_
    exact jqe (show sp_join a1 = 0 by unfold sp_join; (repeat' split) <;> first | rfl | (exfalso; omega)) (hQ _ (jFb_si rfl (jFb_si rfl (jFb_ci rfl (jFb_si rfl (jFb_si rfl (jFb_si rfl (jFb_si rfl (jFb_si rfl (jFb_si rfl (jFb_si rfl (jFb_si rfl (jFb_si rfl (jFb_si rfl (jFb_si rfl (jFb_si rfl FM))))))))))))))) (jOl_si rfl (jOl_si rfl (jOl_ci rfl (jOl_si rfl (jOl_si rfl (jOl_si rfl (jOl_si rfl (jOl_si rfl (jOl_si rfl (jOl_si rfl (jOl_si rfl (jOl_si rfl (jOl_si rfl (jOl_si rfl (jOl_si rfl O))))))))))))))))
  ·
    refine x_aloadn (x := 31) rfl rfl ?_
    refine x_iconst (v := (-1)) rfl ki_m1 ?_
    refine x_inv (N := m_X11_refuse) (As := [.int (-1)]) (b := 31) (st := []) (d' := 99) (mc := 0) (ms := 0) (host := "") 11 rfl t_X11_refuse ⟨Or.inl q_11_206, i_X11_refuse.1, i_X11_refuse.2⟩ ⟨by decide, rfl⟩ (congrArg Prod.fst (F.1 31 (11, 13) rfl rfl)) rfl (by decide) rfl rfl ⟨by decide, by decide⟩ (jC.of rfl k_X11_refuse rfl ?_)
    show jX m_X11_refuse 99 0 0 0 [(0, .ref 31), (1, .int (-1))] [] _ 0 0 _
    refine x_aloadn (x := 31) rfl rfl ?_
    refine x_iloadn (x := (-1)) rfl rfl ?_
    refine x_putI 11 12 rfl f_11_94 rfl (jfin_no TX11 RX11 13 rfl rfl) (congrArg Prod.fst (F.1 31 (11, 13) rfl rfl)) rfl ?_
    refine x_iloadn (x := (-1)) rfl rfl ?_
    refine x_iret rfl rfl ?_
    show jX m_X11_join 100 0 0 12 [(0, .ref 31), (1, .int a1)] [.int (-1)] _ 0 0 _
    refine x_iret rfl rfl ?_
    exact jqe (show sp_join a1 = (-1) by unfold sp_join; (repeat' split) <;> first | rfl | (exfalso; omega)) (hQ _ (jFb_si rfl FM) (jOl_si rfl O))
set_option maxRecDepth 100000 in
set_option maxHeartbeats 40000000 in
theorem pm_join (a1 : Int32) {xs : Nat → Int32} {h : jH} {Q : Option Value → jH → Prop} (F : jFb 125 h) (O : jOl 7 xs h) (hQ : ∀ h', jOl 7 xs h' → Q (some (.int (sp_join a1))) h') : jC m_X12_join 100 0 0 [.ref 125, .int a1] h Q := by
  refine jC.of rfl k_X12_join rfl ?_
  show jX m_X12_join 100 0 0 0 [(0, .ref 125), (1, .int a1)] [] _ 0 0 _
  refine x_aloadn (x := 125) rfl rfl ?_
  refine x_iconst (v := 0) rfl ki_0 ?_
  refine x_putI 12 0 rfl f_12_180 rfl (jfin_no TX12 RX12 92 rfl rfl) (congrArg Prod.fst (F.1 125 (12, 92) rfl rfl)) rfl ?_
  refine x_iloadn (x := a1) rfl rfl ?_
  refine x_inst (N := m_X12_isDay) (As := [.int a1]) (st := []) (d' := 99) (mc := 0) (ms := 0) (host := "") rfl t_X12_isDay ⟨Or.inl q_12_273, s_X12_isDay⟩ rfl (by decide) rfl rfl ⟨by decide, by decide⟩ (c_X12_isDay (x := a1) ?_)
  show jX m_X12_join 100 0 0 9 [(0, .ref 125), (1, .int a1)] [.int (jp (0 ≤ a1.toInt ∧ a1.toInt ≤ 146399))] _ 0 0 _
  refine x_ifne (tgt := 18) rfl rfl (jpn ⟨fun c1 => ?_, fun c1 => ?_⟩)
  ·
    refine x_aloadn (x := 125) rfl rfl ?_
    refine x_iconst (v := 0) rfl ki_0 ?_
    refine x_inv (N := m_X12_findBest) (As := [.int 0]) (b := 125) (st := []) (d' := 99) (mc := 0) (ms := 0) (host := "") 12 rfl t_X12_findBest ⟨Or.inl q_12_468, i_X12_findBest.1, i_X12_findBest.2⟩ ⟨by decide, rfl⟩ (congrArg Prod.fst (sh_si (F.1 125 (12, 92) rfl rfl))) rfl (by decide) rfl rfl ⟨by decide, by decide⟩ (jC.of rfl k_X12_findBest rfl ?_)
    show jX m_X12_findBest 99 0 0 0 [(0, .ref 125), (1, .int 0)] [] _ 0 0 _
    refine x_aloadn (x := 125) rfl rfl ?_
    refine x_inv (N := m_X12_weigh) (As := []) (b := 125) (st := []) (d' := 98) (mc := 0) (ms := 0) (host := "") 12 rfl t_X12_weigh ⟨Or.inl q_12_443, i_X12_weigh.1, i_X12_weigh.2⟩ ⟨by decide, rfl⟩ (congrArg Prod.fst (sh_si (F.1 125 (12, 92) rfl rfl))) rfl (by decide) rfl rfl ⟨by decide, by decide⟩ (jC.of rfl k_X12_weigh rfl ?_)
    show jX m_X12_weigh 98 0 0 0 [(0, .ref 125)] [] _ 0 0 _
    refine x_aloadn (x := 125) rfl rfl ?_
    refine x_ldcw (v := 146399) rfl z_12_392 ?_
    refine x_inv (N := m_X12_find) (As := [.int 146399]) (b := 125) (st := []) (d' := 97) (mc := 0) (ms := 0) (host := "") 12 rfl t_X12_find ⟨Or.inl q_12_393, i_X12_find.1, i_X12_find.2⟩ ⟨by decide, rfl⟩ (congrArg Prod.fst (sh_si (F.1 125 (12, 92) rfl rfl))) rfl (by decide) rfl rfl ⟨by decide, by decide⟩ (jC.of rfl k_X12_find rfl ?_)
    show jX m_X12_find 97 0 0 0 [(0, .ref 125), (1, .int 146399)] [] _ 0 0 _
    refine x_aloadn (x := 125) rfl rfl ?_
    refine x_iloadn (x := 146399) rfl rfl ?_
    refine x_putI 12 28 rfl f_12_377 rfl (jfin_no TX12 RX12 92 rfl rfl) (congrArg Prod.fst (sh_si (F.1 125 (12, 92) rfl rfl))) rfl ?_
    refine x_aloadn (x := 125) rfl rfl ?_
    refine x_iconst (v := 0) rfl ki_0 ?_
    refine x_putI 12 31 rfl f_12_380 rfl (jfin_no TX12 RX12 92 rfl rfl) (congrArg Prod.fst (sh_si (sh_si (F.1 125 (12, 92) rfl rfl)))) rfl ?_
    refine x_aloadn (x := 125) rfl rfl ?_
    refine x_iconst (v := (-1)) rfl ki_m1 ?_
    refine x_putI 12 57 rfl f_12_111 rfl (jfin_no TX12 RX12 92 rfl rfl) (congrArg Prod.fst (sh_si (sh_si (sh_si (F.1 125 (12, 92) rfl rfl))))) rfl ?_
    refine x_iconst (v := 0) rfl ki_0 ?_
    refine x_istoren (ls' := [(2, .int 0), (0, .ref 125), (1, .int 146399)]) rfl rfl rfl ?_
    refine x_iloadn (x := 0) rfl rfl ?_
    refine x_iconst (v := 3) rfl ki_3 ?_
    refine x_aloadn (x := 125) rfl rfl ?_
    refine x_getR (b := 126) 12 2 rfl f_12_8 rfl (congrArg Prod.fst (sh_si (sh_si (sh_si (sh_si (F.1 125 (12, 92) rfl rfl)))))) (rv_si (rv_si (rv_si (rv_si (F.2.1 16002 126 rfl rfl))))) ?_
    refine x_iconst (v := 0) rfl ki_0 ?_
    refine y_iald (v := 0) (N := 50660) 0 rfl (sh_si (sh_si (sh_si (sh_si (F.1 126 (100, 50660) rfl rfl))))) (jinb_of (by decide)) (by decide) (iv_si rfl (iv_si rfl (iv_si rfl (iv_si rfl (F.2.2.2.1 126 rfl rfl 0).1)))) ?_
    refine y_imul (v := 0) rfl (by decide) ?_
    refine x_icge (tgt := 65) rfl rfl (br_t (by decide) ?_)
    refine x_iconst (v := 0) rfl ki_0 ?_
    refine x_istoren (ls' := [(2, .int 0), (0, .ref 125), (1, .int 146399)]) rfl rfl rfl ?_
    refine x_iloadn (x := 0) rfl rfl ?_
    refine x_aloadn (x := 125) rfl rfl ?_
    refine x_getR (b := 126) 12 2 rfl f_12_8 rfl (congrArg Prod.fst (sh_si (sh_si (sh_si (sh_si (F.1 125 (12, 92) rfl rfl)))))) (rv_si (rv_si (rv_si (rv_si (F.2.1 16002 126 rfl rfl))))) ?_
    refine x_iconst (v := 2) rfl ki_2 ?_
    refine y_iald (v := 0) (N := 50660) 2 rfl (sh_si (sh_si (sh_si (sh_si (F.1 126 (100, 50660) rfl rfl))))) (jinb_of (by decide)) (by decide) (iv_si rfl (iv_si rfl (iv_si rfl (iv_si rfl (F.2.2.2.1 126 rfl rfl 2).1)))) ?_
    refine x_icge (tgt := 227) rfl rfl (br_t (by decide) ?_)
    refine x_vret rfl rfl ?_
    show jX m_X12_weigh 98 0 0 7 [(0, .ref 125)] [] _ 0 0 _
    refine x_aloadn (x := 125) rfl rfl ?_
    refine x_iconst (v := 0) rfl ki_0 ?_
    refine x_putI 12 45 rfl f_12_440 rfl (jfin_no TX12 RX12 92 rfl rfl) (congrArg Prod.fst (sh_si (sh_si (sh_si (sh_si (F.1 125 (12, 92) rfl rfl)))))) rfl ?_
    refine x_iconst (v := 0) rfl ki_0 ?_
    refine x_istoren (ls' := [(1, .int 0), (0, .ref 125)]) rfl rfl rfl ?_
    refine x_iloadn (x := 0) rfl rfl ?_
    refine x_aloadn (x := 125) rfl rfl ?_
    refine y_getI (v := 0) 12 36 rfl f_12_204 rfl (congrArg Prod.fst (sh_si (sh_si (sh_si (sh_si (sh_si (F.1 125 (12, 92) rfl rfl))))))) (iv_si rfl (iv_si rfl (iv_si rfl (iv_si rfl (iv_si rfl (F.2.2.1 16036 0 rfl rfl)))))) ?_
    refine x_icge (tgt := 182) rfl rfl (br_t (by decide) ?_)
    refine x_vret rfl rfl ?_
    show jX m_X12_findBest 99 0 0 4 [(0, .ref 125), (1, .int 0)] [] _ 0 0 _
    refine x_aloadn (x := 125) rfl rfl ?_
    refine x_iconst (v := (-1)) rfl ki_m1 ?_
    refine x_putI 12 43 rfl f_12_446 rfl (jfin_no TX12 RX12 92 rfl rfl) (congrArg Prod.fst (sh_si (sh_si (sh_si (sh_si (sh_si (F.1 125 (12, 92) rfl rfl))))))) rfl ?_
    refine x_aloadn (x := 125) rfl rfl ?_
    refine x_iconst (v := 0) rfl ki_0 ?_
    refine x_putI 12 44 rfl f_12_449 rfl (jfin_no TX12 RX12 92 rfl rfl) (congrArg Prod.fst (sh_si (sh_si (sh_si (sh_si (sh_si (sh_si (F.1 125 (12, 92) rfl rfl)))))))) rfl ?_
    refine x_aloadn (x := 125) rfl rfl ?_
    refine x_inv (N := m_X12_firstGroups) (As := []) (b := 125) (st := []) (d' := 98) (mc := 0) (ms := 0) (host := "") 12 rfl t_X12_firstGroups ⟨Or.inl q_12_452, i_X12_firstGroups.1, i_X12_firstGroups.2⟩ ⟨by decide, rfl⟩ (congrArg Prod.fst (sh_si (sh_si (sh_si (sh_si (sh_si (sh_si (sh_si (F.1 125 (12, 92) rfl rfl))))))))) rfl (by decide) rfl rfl ⟨by decide, by decide⟩ (jC.of rfl k_X12_firstGroups rfl ?_)
    show jX m_X12_firstGroups 98 0 0 0 [(0, .ref 125)] [] _ 0 0 _
    refine x_iconst (v := 0) rfl ki_0 ?_
    refine x_istoren (ls' := [(1, .int 0), (0, .ref 125)]) rfl rfl rfl ?_
    refine x_iloadn (x := 0) rfl rfl ?_
    refine x_bipush (v := 9) rfl kb_9 ?_
    refine x_icge (tgt := 21) rfl rfl (br_f (by decide) ?_)
    refine x_aloadn (x := 125) rfl rfl ?_
    refine x_getR (b := 145) 12 41 rfl f_12_90 rfl (congrArg Prod.fst (sh_si (sh_si (sh_si (sh_si (sh_si (sh_si (sh_si (F.1 125 (12, 92) rfl rfl))))))))) (rv_si (rv_si (rv_si (rv_si (rv_si (rv_si (rv_si (F.2.1 16041 145 rfl rfl)))))))) ?_
    refine x_iloadn (x := 0) rfl rfl ?_
    refine x_iconst (v := 0) rfl ki_0 ?_
    refine y_iast (N := 9) 0 rfl (sh_si (sh_si (sh_si (sh_si (sh_si (sh_si (sh_si (F.1 145 (100, 9) rfl rfl)))))))) rfl (jinb_of (by decide)) (by decide) ?_
    refine x_iinc (x := 0) (v := 1) (ls' := [(1, .int 1), (0, .ref 125)]) rfl rfl (by decide) rfl rfl ?_
    refine x_goto (tgt := 2) rfl rfl ?_
    refine x_iloadn (x := 1) rfl rfl ?_
    refine x_bipush (v := 9) rfl kb_9 ?_
    refine x_icge (tgt := 21) rfl rfl (br_f (by decide) ?_)
    refine x_aloadn (x := 125) rfl rfl ?_
    refine x_getR (b := 145) 12 41 rfl f_12_90 rfl (congrArg Prod.fst (sh_si (sh_si (sh_si (sh_si (sh_si (sh_si (sh_si (sh_si (F.1 125 (12, 92) rfl rfl)))))))))) (rv_si (rv_si (rv_si (rv_si (rv_si (rv_si (rv_si (rv_si (F.2.1 16041 145 rfl rfl))))))))) ?_
    refine x_iloadn (x := 1) rfl rfl ?_
    refine x_iconst (v := 0) rfl ki_0 ?_
    refine y_iast (N := 9) 1 rfl (sh_si (sh_si (sh_si (sh_si (sh_si (sh_si (sh_si (sh_si (F.1 145 (100, 9) rfl rfl))))))))) rfl (jinb_of (by decide)) (by decide) ?_
    refine x_iinc (x := 1) (v := 2) (ls' := [(1, .int 2), (0, .ref 125)]) rfl rfl (by decide) rfl rfl ?_
    refine x_goto (tgt := 2) rfl rfl ?_
    refine x_iloadn (x := 2) rfl rfl ?_
    refine x_bipush (v := 9) rfl kb_9 ?_
    refine x_icge (tgt := 21) rfl rfl (br_f (by decide) ?_)
    refine x_aloadn (x := 125) rfl rfl ?_
    refine x_getR (b := 145) 12 41 rfl f_12_90 rfl (congrArg Prod.fst (sh_si (sh_si (sh_si (sh_si (sh_si (sh_si (sh_si (sh_si (sh_si (F.1 125 (12, 92) rfl rfl))))))))))) (rv_si (rv_si (rv_si (rv_si (rv_si (rv_si (rv_si (rv_si (rv_si (F.2.1 16041 145 rfl rfl)))))))))) ?_
    refine x_iloadn (x := 2) rfl rfl ?_
    refine x_iconst (v := 0) rfl ki_0 ?_
    refine y_iast (N := 9) 2 rfl (sh_si (sh_si (sh_si (sh_si (sh_si (sh_si (sh_si (sh_si (sh_si (F.1 145 (100, 9) rfl rfl)))))))))) rfl (jinb_of (by decide)) (by decide) ?_
    refine x_iinc (x := 2) (v := 3) (ls' := [(1, .int 3), (0, .ref 125)]) rfl rfl (by decide) rfl rfl ?_
    refine x_goto (tgt := 2) rfl rfl ?_
    refine x_iloadn (x := 3) rfl rfl ?_
    refine x_bipush (v := 9) rfl kb_9 ?_
    refine x_icge (tgt := 21) rfl rfl (br_f (by decide) ?_)
    refine x_aloadn (x := 125) rfl rfl ?_
    refine x_getR (b := 145) 12 41 rfl f_12_90 rfl (congrArg Prod.fst (sh_si (sh_si (sh_si (sh_si (sh_si (sh_si (sh_si (sh_si (sh_si (sh_si (F.1 125 (12, 92) rfl rfl)))))))))))) (rv_si (rv_si (rv_si (rv_si (rv_si (rv_si (rv_si (rv_si (rv_si (rv_si (F.2.1 16041 145 rfl rfl))))))))))) ?_
    refine x_iloadn (x := 3) rfl rfl ?_
    refine x_iconst (v := 0) rfl ki_0 ?_
    refine y_iast (N := 9) 3 rfl (sh_si (sh_si (sh_si (sh_si (sh_si (sh_si (sh_si (sh_si (sh_si (sh_si (F.1 145 (100, 9) rfl rfl))))))))))) rfl (jinb_of (by decide)) (by decide) ?_
    refine x_iinc (x := 3) (v := 4) (ls' := [(1, .int 4), (0, .ref 125)]) rfl rfl (by decide) rfl rfl ?_
    refine x_goto (tgt := 2) rfl rfl ?_
    refine x_iloadn (x := 4) rfl rfl ?_
    refine x_bipush (v := 9) rfl kb_9 ?_
    refine x_icge (tgt := 21) rfl rfl (br_f (by decide) ?_)
    refine x_aloadn (x := 125) rfl rfl ?_
    refine x_getR (b := 145) 12 41 rfl f_12_90 rfl (congrArg Prod.fst (sh_si (sh_si (sh_si (sh_si (sh_si (sh_si (sh_si (sh_si (sh_si (sh_si (sh_si (F.1 125 (12, 92) rfl rfl))))))))))))) (rv_si (rv_si (rv_si (rv_si (rv_si (rv_si (rv_si (rv_si (rv_si (rv_si (rv_si (F.2.1 16041 145 rfl rfl)))))))))))) ?_
    refine x_iloadn (x := 4) rfl rfl ?_
    refine x_iconst (v := 0) rfl ki_0 ?_
    refine y_iast (N := 9) 4 rfl (sh_si (sh_si (sh_si (sh_si (sh_si (sh_si (sh_si (sh_si (sh_si (sh_si (sh_si (F.1 145 (100, 9) rfl rfl)))))))))))) rfl (jinb_of (by decide)) (by decide) ?_
    refine x_iinc (x := 4) (v := 5) (ls' := [(1, .int 5), (0, .ref 125)]) rfl rfl (by decide) rfl rfl ?_
    refine x_goto (tgt := 2) rfl rfl ?_
    refine x_iloadn (x := 5) rfl rfl ?_
    refine x_bipush (v := 9) rfl kb_9 ?_
    refine x_icge (tgt := 21) rfl rfl (br_f (by decide) ?_)
    refine x_aloadn (x := 125) rfl rfl ?_
    refine x_getR (b := 145) 12 41 rfl f_12_90 rfl (congrArg Prod.fst (sh_si (sh_si (sh_si (sh_si (sh_si (sh_si (sh_si (sh_si (sh_si (sh_si (sh_si (sh_si (F.1 125 (12, 92) rfl rfl)))))))))))))) (rv_si (rv_si (rv_si (rv_si (rv_si (rv_si (rv_si (rv_si (rv_si (rv_si (rv_si (rv_si (F.2.1 16041 145 rfl rfl))))))))))))) ?_
    refine x_iloadn (x := 5) rfl rfl ?_
    refine x_iconst (v := 0) rfl ki_0 ?_
    refine y_iast (N := 9) 5 rfl (sh_si (sh_si (sh_si (sh_si (sh_si (sh_si (sh_si (sh_si (sh_si (sh_si (sh_si (sh_si (F.1 145 (100, 9) rfl rfl))))))))))))) rfl (jinb_of (by decide)) (by decide) ?_
    refine x_iinc (x := 5) (v := 6) (ls' := [(1, .int 6), (0, .ref 125)]) rfl rfl (by decide) rfl rfl ?_
    refine x_goto (tgt := 2) rfl rfl ?_
    refine x_iloadn (x := 6) rfl rfl ?_
    refine x_bipush (v := 9) rfl kb_9 ?_
    refine x_icge (tgt := 21) rfl rfl (br_f (by decide) ?_)
    refine x_aloadn (x := 125) rfl rfl ?_
    refine x_getR (b := 145) 12 41 rfl f_12_90 rfl (congrArg Prod.fst (sh_si (sh_si (sh_si (sh_si (sh_si (sh_si (sh_si (sh_si (sh_si (sh_si (sh_si (sh_si (sh_si (F.1 125 (12, 92) rfl rfl))))))))))))))) (rv_si (rv_si (rv_si (rv_si (rv_si (rv_si (rv_si (rv_si (rv_si (rv_si (rv_si (rv_si (rv_si (F.2.1 16041 145 rfl rfl)))))))))))))) ?_
    refine x_iloadn (x := 6) rfl rfl ?_
    refine x_iconst (v := 0) rfl ki_0 ?_
    refine y_iast (N := 9) 6 rfl (sh_si (sh_si (sh_si (sh_si (sh_si (sh_si (sh_si (sh_si (sh_si (sh_si (sh_si (sh_si (sh_si (F.1 145 (100, 9) rfl rfl)))))))))))))) rfl (jinb_of (by decide)) (by decide) ?_
    refine x_iinc (x := 6) (v := 7) (ls' := [(1, .int 7), (0, .ref 125)]) rfl rfl (by decide) rfl rfl ?_
    refine x_goto (tgt := 2) rfl rfl ?_
    refine x_iloadn (x := 7) rfl rfl ?_
    refine x_bipush (v := 9) rfl kb_9 ?_
    refine x_icge (tgt := 21) rfl rfl (br_f (by decide) ?_)
    refine x_aloadn (x := 125) rfl rfl ?_
    refine x_getR (b := 145) 12 41 rfl f_12_90 rfl (congrArg Prod.fst (sh_si (sh_si (sh_si (sh_si (sh_si (sh_si (sh_si (sh_si (sh_si (sh_si (sh_si (sh_si (sh_si (sh_si (F.1 125 (12, 92) rfl rfl)))))))))))))))) (rv_si (rv_si (rv_si (rv_si (rv_si (rv_si (rv_si (rv_si (rv_si (rv_si (rv_si (rv_si (rv_si (rv_si (F.2.1 16041 145 rfl rfl))))))))))))))) ?_
    refine x_iloadn (x := 7) rfl rfl ?_
    refine x_iconst (v := 0) rfl ki_0 ?_
    refine y_iast (N := 9) 7 rfl (sh_si (sh_si (sh_si (sh_si (sh_si (sh_si (sh_si (sh_si (sh_si (sh_si (sh_si (sh_si (sh_si (sh_si (F.1 145 (100, 9) rfl rfl))))))))))))))) rfl (jinb_of (by decide)) (by decide) ?_
    refine x_iinc (x := 7) (v := 8) (ls' := [(1, .int 8), (0, .ref 125)]) rfl rfl (by decide) rfl rfl ?_
    refine x_goto (tgt := 2) rfl rfl ?_
    refine x_iloadn (x := 8) rfl rfl ?_
    refine x_bipush (v := 9) rfl kb_9 ?_
    refine x_icge (tgt := 21) rfl rfl (br_f (by decide) ?_)
    refine x_aloadn (x := 125) rfl rfl ?_
    refine x_getR (b := 145) 12 41 rfl f_12_90 rfl (congrArg Prod.fst (sh_si (sh_si (sh_si (sh_si (sh_si (sh_si (sh_si (sh_si (sh_si (sh_si (sh_si (sh_si (sh_si (sh_si (sh_si (F.1 125 (12, 92) rfl rfl))))))))))))))))) (rv_si (rv_si (rv_si (rv_si (rv_si (rv_si (rv_si (rv_si (rv_si (rv_si (rv_si (rv_si (rv_si (rv_si (rv_si (F.2.1 16041 145 rfl rfl)))))))))))))))) ?_
    refine x_iloadn (x := 8) rfl rfl ?_
    refine x_iconst (v := 0) rfl ki_0 ?_
    refine y_iast (N := 9) 8 rfl (sh_si (sh_si (sh_si (sh_si (sh_si (sh_si (sh_si (sh_si (sh_si (sh_si (sh_si (sh_si (sh_si (sh_si (sh_si (F.1 145 (100, 9) rfl rfl)))))))))))))))) rfl (jinb_of (by decide)) (by decide) ?_
    refine x_iinc (x := 8) (v := 9) (ls' := [(1, .int 9), (0, .ref 125)]) rfl rfl (by decide) rfl rfl ?_
    refine x_goto (tgt := 2) rfl rfl ?_
    refine x_iloadn (x := 9) rfl rfl ?_
    refine x_bipush (v := 9) rfl kb_9 ?_
    refine x_icge (tgt := 21) rfl rfl (br_t (by decide) ?_)
    refine x_vret rfl rfl ?_
    show jX m_X12_findBest 99 0 0 18 [(0, .ref 125), (1, .int 0)] [] _ 0 0 _
    refine x_iconst (v := 1) rfl ki_1 ?_
    refine x_istoren (ls' := [(2, .int 1), (0, .ref 125), (1, .int 0)]) rfl rfl rfl ?_
    refine x_iloadn (x := 1) rfl rfl ?_
    refine x_ifeq (tgt := 160) rfl rfl (br_f (by decide) ?_)
    refine x_aloadn (x := 125) rfl rfl ?_
    refine x_inv (N := m_X12_groupsWorth) (As := []) (b := 125) (st := []) (d' := 98) (mc := 0) (ms := 0) (host := "") 12 rfl t_X12_groupsWorth ⟨Or.inl q_12_455, i_X12_groupsWorth.1, i_X12_groupsWorth.2⟩ ⟨by decide, rfl⟩ (congrArg Prod.fst (sh_si (sh_si (sh_si (sh_si (sh_si (sh_si (sh_si (sh_si (sh_si (sh_si (sh_si (sh_si (sh_si (sh_si (sh_si (sh_si (F.1 125 (12, 92) rfl rfl)))))))))))))))))) rfl (by decide) rfl rfl ⟨by decide, by decide⟩ (jC.of rfl k_X12_groupsWorth rfl ?_)
    show jX m_X12_groupsWorth 98 0 0 0 [(0, .ref 125)] [] _ 0 0 _
    refine x_iconst (v := 0) rfl ki_0 ?_
    refine x_istoren (ls' := [(1, .int 0), (0, .ref 125)]) rfl rfl rfl ?_
    refine x_iconst (v := 1) rfl ki_1 ?_
    refine x_istoren (ls' := [(2, .int 1), (1, .int 0), (0, .ref 125)]) rfl rfl rfl ?_
    refine x_iconst (v := 0) rfl ki_0 ?_
    refine x_istoren (ls' := [(3, .int 0), (2, .int 1), (1, .int 0), (0, .ref 125)]) rfl rfl rfl ?_
    refine x_iloadn (x := 0) rfl rfl ?_
    refine x_aloadn (x := 125) rfl rfl ?_
    refine y_getI (v := 0) 12 36 rfl f_12_204 rfl (congrArg Prod.fst (sh_si (sh_si (sh_si (sh_si (sh_si (sh_si (sh_si (sh_si (sh_si (sh_si (sh_si (sh_si (sh_si (sh_si (sh_si (sh_si (F.1 125 (12, 92) rfl rfl)))))))))))))))))) (iv_si rfl (iv_si rfl (iv_si rfl (iv_si rfl (iv_si rfl (iv_si rfl (iv_si rfl (iv_si rfl (iv_si rfl (iv_si rfl (iv_si rfl (iv_si rfl (iv_si rfl (iv_si rfl (iv_si rfl (iv_si rfl (F.2.2.1 16036 0 rfl rfl))))))))))))))))) ?_
    refine x_icge (tgt := 130) rfl rfl (br_t (by decide) ?_)
    refine x_iloadn (x := 1) rfl rfl ?_
    refine x_ifeq (tgt := 138) rfl rfl (br_f (by decide) ?_)
    refine x_iloadn (x := 0) rfl rfl ?_
    refine x_goto (tgt := 139) rfl rfl ?_
    refine x_iret rfl rfl ?_
    show jX m_X12_findBest 99 0 0 28 [(2, .int 1), (0, .ref 125), (1, .int 0)] [.int 0] _ 0 0 _
    refine x_istoren (ls' := [(3, .int 0), (2, .int 1), (0, .ref 125), (1, .int 0)]) rfl rfl rfl ?_
    refine x_iconst (v := 0) rfl ki_0 ?_
    refine x_istore (ls' := [(4, .int 0), (3, .int 0), (2, .int 1), (0, .ref 125), (1, .int 0)]) rfl rfl rfl ?_
    refine x_iconst (v := 0) rfl ki_0 ?_
    refine x_istore (ls' := [(5, .int 0), (4, .int 0), (3, .int 0), (2, .int 1), (0, .ref 125), (1, .int 0)]) rfl rfl rfl ?_
    refine x_iload (x := 0) rfl rfl ?_
    refine x_aloadn (x := 125) rfl rfl ?_
    refine y_getI (v := 0) 12 36 rfl f_12_204 rfl (congrArg Prod.fst (sh_si (sh_si (sh_si (sh_si (sh_si (sh_si (sh_si (sh_si (sh_si (sh_si (sh_si (sh_si (sh_si (sh_si (sh_si (sh_si (F.1 125 (12, 92) rfl rfl)))))))))))))))))) (iv_si rfl (iv_si rfl (iv_si rfl (iv_si rfl (iv_si rfl (iv_si rfl (iv_si rfl (iv_si rfl (iv_si rfl (iv_si rfl (iv_si rfl (iv_si rfl (iv_si rfl (iv_si rfl (iv_si rfl (iv_si rfl (F.2.2.1 16036 0 rfl rfl))))))))))))))))) ?_
    refine x_icge (tgt := 80) rfl rfl (br_t (by decide) ?_)
    refine x_iloadn (x := 0) rfl rfl ?_
    refine x_aloadn (x := 125) rfl rfl ?_
    refine y_getI (v := (-1)) 12 43 rfl f_12_446 rfl (congrArg Prod.fst (sh_si (sh_si (sh_si (sh_si (sh_si (sh_si (sh_si (sh_si (sh_si (sh_si (sh_si (sh_si (sh_si (sh_si (sh_si (sh_si (F.1 125 (12, 92) rfl rfl)))))))))))))))))) (iv_si rfl (iv_si rfl (iv_si rfl (iv_si rfl (iv_si rfl (iv_si rfl (iv_si rfl (iv_si rfl (iv_si rfl (iv_si rfl iv_eq)))))))))) ?_
    refine x_icgt (tgt := 109) rfl rfl (br_t (by decide) ?_)
    refine x_aloadn (x := 125) rfl rfl ?_
    refine x_iloadn (x := 0) rfl rfl ?_
    refine x_putI 12 43 rfl f_12_446 rfl (jfin_no TX12 RX12 92 rfl rfl) (congrArg Prod.fst (sh_si (sh_si (sh_si (sh_si (sh_si (sh_si (sh_si (sh_si (sh_si (sh_si (sh_si (sh_si (sh_si (sh_si (sh_si (sh_si (F.1 125 (12, 92) rfl rfl)))))))))))))))))) rfl ?_
    refine x_aloadn (x := 125) rfl rfl ?_
    refine x_iload (x := 0) rfl rfl ?_
    refine x_putI 12 44 rfl f_12_449 rfl (jfin_no TX12 RX12 92 rfl rfl) (congrArg Prod.fst (sh_si (sh_si (sh_si (sh_si (sh_si (sh_si (sh_si (sh_si (sh_si (sh_si (sh_si (sh_si (sh_si (sh_si (sh_si (sh_si (sh_si (F.1 125 (12, 92) rfl rfl))))))))))))))))))) rfl ?_
    refine x_iconst (v := 0) rfl ki_0 ?_
    refine x_istore (ls' := [(5, .int 0), (4, .int 0), (3, .int 0), (2, .int 1), (0, .ref 125), (1, .int 0)]) rfl rfl rfl ?_
    refine x_iload (x := 0) rfl rfl ?_
    refine x_aloadn (x := 125) rfl rfl ?_
    refine y_getI (v := 0) 12 36 rfl f_12_204 rfl (congrArg Prod.fst (sh_si (sh_si (sh_si (sh_si (sh_si (sh_si (sh_si (sh_si (sh_si (sh_si (sh_si (sh_si (sh_si (sh_si (sh_si (sh_si (sh_si (sh_si (F.1 125 (12, 92) rfl rfl)))))))))))))))))))) (iv_si rfl (iv_si rfl (iv_si rfl (iv_si rfl (iv_si rfl (iv_si rfl (iv_si rfl (iv_si rfl (iv_si rfl (iv_si rfl (iv_si rfl (iv_si rfl (iv_si rfl (iv_si rfl (iv_si rfl (iv_si rfl (iv_si rfl (iv_si rfl (F.2.2.1 16036 0 rfl rfl))))))))))))))))))) ?_
    refine x_icge (tgt := 152) rfl rfl (br_t (by decide) ?_)
    refine x_aloadn (x := 125) rfl rfl ?_
    refine x_inv (N := m_X12_nextGroups) (As := []) (b := 125) (st := []) (d' := 98) (mc := 0) (ms := 0) (host := "") 12 rfl t_X12_nextGroups ⟨Or.inl q_12_459, i_X12_nextGroups.1, i_X12_nextGroups.2⟩ ⟨by decide, rfl⟩ (congrArg Prod.fst (sh_si (sh_si (sh_si (sh_si (sh_si (sh_si (sh_si (sh_si (sh_si (sh_si (sh_si (sh_si (sh_si (sh_si (sh_si (sh_si (sh_si (sh_si (F.1 125 (12, 92) rfl rfl)))))))))))))))))))) rfl (by decide) rfl rfl ⟨by decide, by decide⟩ (jC.of rfl k_X12_nextGroups rfl ?_)
    show jX m_X12_nextGroups 98 0 0 0 [(0, .ref 125)] [] _ 0 0 _
    refine x_aloadn (x := 125) rfl rfl ?_
    refine y_getI (v := 0) 12 36 rfl f_12_204 rfl (congrArg Prod.fst (sh_si (sh_si (sh_si (sh_si (sh_si (sh_si (sh_si (sh_si (sh_si (sh_si (sh_si (sh_si (sh_si (sh_si (sh_si (sh_si (sh_si (sh_si (F.1 125 (12, 92) rfl rfl)))))))))))))))))))) (iv_si rfl (iv_si rfl (iv_si rfl (iv_si rfl (iv_si rfl (iv_si rfl (iv_si rfl (iv_si rfl (iv_si rfl (iv_si rfl (iv_si rfl (iv_si rfl (iv_si rfl (iv_si rfl (iv_si rfl (iv_si rfl (iv_si rfl (iv_si rfl (F.2.2.1 16036 0 rfl rfl))))))))))))))))))) ?_
    refine x_iconst (v := 1) rfl ki_1 ?_
    refine y_isub (v := (-1)) rfl (by decide) ?_
    refine x_istoren (ls' := [(1, .int (-1)), (0, .ref 125)]) rfl rfl rfl ?_
    refine x_iloadn (x := (-1)) rfl rfl ?_
    refine x_ifle (tgt := 100) rfl rfl (br_t (by decide) ?_)
    refine x_iconst (v := 0) rfl ki_0 ?_
    refine x_zret rfl rfl (by first | decide | exact jp_01 _) ?_
    show jX m_X12_findBest 99 0 0 156 [(5, .int 0), (4, .int 0), (3, .int 0), (2, .int 1), (0, .ref 125), (1, .int 0)] [.int 0] _ 0 0 _
    refine x_istoren (ls' := [(2, .int 0), (5, .int 0), (4, .int 0), (3, .int 0), (0, .ref 125), (1, .int 0)]) rfl rfl rfl ?_
    refine x_goto (tgt := 20) rfl rfl ?_
    refine x_iloadn (x := 0) rfl rfl ?_
    refine x_ifeq (tgt := 160) rfl rfl (br_t (by decide) ?_)
    refine x_aloadn (x := 125) rfl rfl ?_
    refine x_iconst (v := 0) rfl ki_0 ?_
    refine x_putI 12 46 rfl f_12_463 rfl (jfin_no TX12 RX12 92 rfl rfl) (congrArg Prod.fst (sh_si (sh_si (sh_si (sh_si (sh_si (sh_si (sh_si (sh_si (sh_si (sh_si (sh_si (sh_si (sh_si (sh_si (sh_si (sh_si (sh_si (sh_si (F.1 125 (12, 92) rfl rfl)))))))))))))))))))) rfl ?_
    refine x_aloadn (x := 125) rfl rfl ?_
    refine x_inv (N := m_X12_firstGroups) (As := []) (b := 125) (st := []) (d' := 98) (mc := 0) (ms := 0) (host := "") 12 rfl t_X12_firstGroups ⟨Or.inl q_12_452, i_X12_firstGroups.1, i_X12_firstGroups.2⟩ ⟨by decide, rfl⟩ (congrArg Prod.fst (sh_si (sh_si (sh_si (sh_si (sh_si (sh_si (sh_si (sh_si (sh_si (sh_si (sh_si (sh_si (sh_si (sh_si (sh_si (sh_si (sh_si (sh_si (sh_si (F.1 125 (12, 92) rfl rfl))))))))))))))))))))) rfl (by decide) rfl rfl ⟨by decide, by decide⟩ (jC.of rfl k_X12_firstGroups rfl ?_)
    show jX m_X12_firstGroups 98 0 0 0 [(0, .ref 125)] [] _ 0 0 _
    refine x_iconst (v := 0) rfl ki_0 ?_
    refine x_istoren (ls' := [(1, .int 0), (0, .ref 125)]) rfl rfl rfl ?_
    refine x_iloadn (x := 0) rfl rfl ?_
    refine x_bipush (v := 9) rfl kb_9 ?_
    refine x_icge (tgt := 21) rfl rfl (br_f (by decide) ?_)
    refine x_aloadn (x := 125) rfl rfl ?_
    refine x_getR (b := 145) 12 41 rfl f_12_90 rfl (congrArg Prod.fst (sh_si (sh_si (sh_si (sh_si (sh_si (sh_si (sh_si (sh_si (sh_si (sh_si (sh_si (sh_si (sh_si (sh_si (sh_si (sh_si (sh_si (sh_si (sh_si (F.1 125 (12, 92) rfl rfl))))))))))))))))))))) (rv_si (rv_si (rv_si (rv_si (rv_si (rv_si (rv_si (rv_si (rv_si (rv_si (rv_si (rv_si (rv_si (rv_si (rv_si (rv_si (rv_si (rv_si (rv_si (F.2.1 16041 145 rfl rfl)))))))))))))))))))) ?_
    refine x_iloadn (x := 0) rfl rfl ?_
    refine x_iconst (v := 0) rfl ki_0 ?_
    refine y_iast (N := 9) 0 rfl (sh_si (sh_si (sh_si (sh_si (sh_si (sh_si (sh_si (sh_si (sh_si (sh_si (sh_si (sh_si (sh_si (sh_si (sh_si (sh_si (sh_si (sh_si (sh_si (F.1 145 (100, 9) rfl rfl)))))))))))))))))))) rfl (jinb_of (by decide)) (by decide) ?_
    refine x_iinc (x := 0) (v := 1) (ls' := [(1, .int 1), (0, .ref 125)]) rfl rfl (by decide) rfl rfl ?_
    refine x_goto (tgt := 2) rfl rfl ?_
    refine x_iloadn (x := 1) rfl rfl ?_
    refine x_bipush (v := 9) rfl kb_9 ?_
    refine x_icge (tgt := 21) rfl rfl (br_f (by decide) ?_)
    refine x_aloadn (x := 125) rfl rfl ?_
    refine x_getR (b := 145) 12 41 rfl f_12_90 rfl (congrArg Prod.fst (sh_si (sh_si (sh_si (sh_si (sh_si (sh_si (sh_si (sh_si (sh_si (sh_si (sh_si (sh_si (sh_si (sh_si (sh_si (sh_si (sh_si (sh_si (sh_si (sh_si (F.1 125 (12, 92) rfl rfl)))))))))))))))))))))) (rv_si (rv_si (rv_si (rv_si (rv_si (rv_si (rv_si (rv_si (rv_si (rv_si (rv_si (rv_si (rv_si (rv_si (rv_si (rv_si (rv_si (rv_si (rv_si (rv_si (F.2.1 16041 145 rfl rfl))))))))))))))))))))) ?_
    refine x_iloadn (x := 1) rfl rfl ?_
    refine x_iconst (v := 0) rfl ki_0 ?_
    refine y_iast (N := 9) 1 rfl (sh_si (sh_si (sh_si (sh_si (sh_si (sh_si (sh_si (sh_si (sh_si (sh_si (sh_si (sh_si (sh_si (sh_si (sh_si (sh_si (sh_si (sh_si (sh_si (sh_si (F.1 145 (100, 9) rfl rfl))))))))))))))))))))) rfl (jinb_of (by decide)) (by decide) ?_
    refine x_iinc (x := 1) (v := 2) (ls' := [(1, .int 2), (0, .ref 125)]) rfl rfl (by decide) rfl rfl ?_
    refine x_goto (tgt := 2) rfl rfl ?_
    refine x_iloadn (x := 2) rfl rfl ?_
    refine x_bipush (v := 9) rfl kb_9 ?_
    refine x_icge (tgt := 21) rfl rfl (br_f (by decide) ?_)
    refine x_aloadn (x := 125) rfl rfl ?_
    refine x_getR (b := 145) 12 41 rfl f_12_90 rfl (congrArg Prod.fst (sh_si (sh_si (sh_si (sh_si (sh_si (sh_si (sh_si (sh_si (sh_si (sh_si (sh_si (sh_si (sh_si (sh_si (sh_si (sh_si (sh_si (sh_si (sh_si (sh_si (sh_si (F.1 125 (12, 92) rfl rfl))))))))))))))))))))))) (rv_si (rv_si (rv_si (rv_si (rv_si (rv_si (rv_si (rv_si (rv_si (rv_si (rv_si (rv_si (rv_si (rv_si (rv_si (rv_si (rv_si (rv_si (rv_si (rv_si (rv_si (F.2.1 16041 145 rfl rfl)))))))))))))))))))))) ?_
    refine x_iloadn (x := 2) rfl rfl ?_
    refine x_iconst (v := 0) rfl ki_0 ?_
    refine y_iast (N := 9) 2 rfl (sh_si (sh_si (sh_si (sh_si (sh_si (sh_si (sh_si (sh_si (sh_si (sh_si (sh_si (sh_si (sh_si (sh_si (sh_si (sh_si (sh_si (sh_si (sh_si (sh_si (sh_si (F.1 145 (100, 9) rfl rfl)))))))))))))))))))))) rfl (jinb_of (by decide)) (by decide) ?_
    refine x_iinc (x := 2) (v := 3) (ls' := [(1, .int 3), (0, .ref 125)]) rfl rfl (by decide) rfl rfl ?_
    refine x_goto (tgt := 2) rfl rfl ?_
    refine x_iloadn (x := 3) rfl rfl ?_
    refine x_bipush (v := 9) rfl kb_9 ?_
    refine x_icge (tgt := 21) rfl rfl (br_f (by decide) ?_)
    refine x_aloadn (x := 125) rfl rfl ?_
    refine x_getR (b := 145) 12 41 rfl f_12_90 rfl (congrArg Prod.fst (sh_si (sh_si (sh_si (sh_si (sh_si (sh_si (sh_si (sh_si (sh_si (sh_si (sh_si (sh_si (sh_si (sh_si (sh_si (sh_si (sh_si (sh_si (sh_si (sh_si (sh_si (sh_si (F.1 125 (12, 92) rfl rfl)))))))))))))))))))))))) (rv_si (rv_si (rv_si (rv_si (rv_si (rv_si (rv_si (rv_si (rv_si (rv_si (rv_si (rv_si (rv_si (rv_si (rv_si (rv_si (rv_si (rv_si (rv_si (rv_si (rv_si (rv_si (F.2.1 16041 145 rfl rfl))))))))))))))))))))))) ?_
    refine x_iloadn (x := 3) rfl rfl ?_
    refine x_iconst (v := 0) rfl ki_0 ?_
    refine y_iast (N := 9) 3 rfl (sh_si (sh_si (sh_si (sh_si (sh_si (sh_si (sh_si (sh_si (sh_si (sh_si (sh_si (sh_si (sh_si (sh_si (sh_si (sh_si (sh_si (sh_si (sh_si (sh_si (sh_si (sh_si (F.1 145 (100, 9) rfl rfl))))))))))))))))))))))) rfl (jinb_of (by decide)) (by decide) ?_
    refine x_iinc (x := 3) (v := 4) (ls' := [(1, .int 4), (0, .ref 125)]) rfl rfl (by decide) rfl rfl ?_
    refine x_goto (tgt := 2) rfl rfl ?_
    refine x_iloadn (x := 4) rfl rfl ?_
    refine x_bipush (v := 9) rfl kb_9 ?_
    refine x_icge (tgt := 21) rfl rfl (br_f (by decide) ?_)
    refine x_aloadn (x := 125) rfl rfl ?_
    refine x_getR (b := 145) 12 41 rfl f_12_90 rfl (congrArg Prod.fst (sh_si (sh_si (sh_si (sh_si (sh_si (sh_si (sh_si (sh_si (sh_si (sh_si (sh_si (sh_si (sh_si (sh_si (sh_si (sh_si (sh_si (sh_si (sh_si (sh_si (sh_si (sh_si (sh_si (F.1 125 (12, 92) rfl rfl))))))))))))))))))))))))) (rv_si (rv_si (rv_si (rv_si (rv_si (rv_si (rv_si (rv_si (rv_si (rv_si (rv_si (rv_si (rv_si (rv_si (rv_si (rv_si (rv_si (rv_si (rv_si (rv_si (rv_si (rv_si (rv_si (F.2.1 16041 145 rfl rfl)))))))))))))))))))))))) ?_
    refine x_iloadn (x := 4) rfl rfl ?_
    refine x_iconst (v := 0) rfl ki_0 ?_
    refine y_iast (N := 9) 4 rfl (sh_si (sh_si (sh_si (sh_si (sh_si (sh_si (sh_si (sh_si (sh_si (sh_si (sh_si (sh_si (sh_si (sh_si (sh_si (sh_si (sh_si (sh_si (sh_si (sh_si (sh_si (sh_si (sh_si (F.1 145 (100, 9) rfl rfl)))))))))))))))))))))))) rfl (jinb_of (by decide)) (by decide) ?_
    refine x_iinc (x := 4) (v := 5) (ls' := [(1, .int 5), (0, .ref 125)]) rfl rfl (by decide) rfl rfl ?_
    refine x_goto (tgt := 2) rfl rfl ?_
    refine x_iloadn (x := 5) rfl rfl ?_
    refine x_bipush (v := 9) rfl kb_9 ?_
    refine x_icge (tgt := 21) rfl rfl (br_f (by decide) ?_)
    refine x_aloadn (x := 125) rfl rfl ?_
    refine x_getR (b := 145) 12 41 rfl f_12_90 rfl (congrArg Prod.fst (sh_si (sh_si (sh_si (sh_si (sh_si (sh_si (sh_si (sh_si (sh_si (sh_si (sh_si (sh_si (sh_si (sh_si (sh_si (sh_si (sh_si (sh_si (sh_si (sh_si (sh_si (sh_si (sh_si (sh_si (F.1 125 (12, 92) rfl rfl)))))))))))))))))))))))))) (rv_si (rv_si (rv_si (rv_si (rv_si (rv_si (rv_si (rv_si (rv_si (rv_si (rv_si (rv_si (rv_si (rv_si (rv_si (rv_si (rv_si (rv_si (rv_si (rv_si (rv_si (rv_si (rv_si (rv_si (F.2.1 16041 145 rfl rfl))))))))))))))))))))))))) ?_
    refine x_iloadn (x := 5) rfl rfl ?_
    refine x_iconst (v := 0) rfl ki_0 ?_
    refine y_iast (N := 9) 5 rfl (sh_si (sh_si (sh_si (sh_si (sh_si (sh_si (sh_si (sh_si (sh_si (sh_si (sh_si (sh_si (sh_si (sh_si (sh_si (sh_si (sh_si (sh_si (sh_si (sh_si (sh_si (sh_si (sh_si (sh_si (F.1 145 (100, 9) rfl rfl))))))))))))))))))))))))) rfl (jinb_of (by decide)) (by decide) ?_
    refine x_iinc (x := 5) (v := 6) (ls' := [(1, .int 6), (0, .ref 125)]) rfl rfl (by decide) rfl rfl ?_
    refine x_goto (tgt := 2) rfl rfl ?_
    refine x_iloadn (x := 6) rfl rfl ?_
    refine x_bipush (v := 9) rfl kb_9 ?_
    refine x_icge (tgt := 21) rfl rfl (br_f (by decide) ?_)
    refine x_aloadn (x := 125) rfl rfl ?_
    refine x_getR (b := 145) 12 41 rfl f_12_90 rfl (congrArg Prod.fst (sh_si (sh_si (sh_si (sh_si (sh_si (sh_si (sh_si (sh_si (sh_si (sh_si (sh_si (sh_si (sh_si (sh_si (sh_si (sh_si (sh_si (sh_si (sh_si (sh_si (sh_si (sh_si (sh_si (sh_si (sh_si (F.1 125 (12, 92) rfl rfl))))))))))))))))))))))))))) (rv_si (rv_si (rv_si (rv_si (rv_si (rv_si (rv_si (rv_si (rv_si (rv_si (rv_si (rv_si (rv_si (rv_si (rv_si (rv_si (rv_si (rv_si (rv_si (rv_si (rv_si (rv_si (rv_si (rv_si (rv_si (F.2.1 16041 145 rfl rfl)))))))))))))))))))))))))) ?_
    refine x_iloadn (x := 6) rfl rfl ?_
    refine x_iconst (v := 0) rfl ki_0 ?_
    refine y_iast (N := 9) 6 rfl (sh_si (sh_si (sh_si (sh_si (sh_si (sh_si (sh_si (sh_si (sh_si (sh_si (sh_si (sh_si (sh_si (sh_si (sh_si (sh_si (sh_si (sh_si (sh_si (sh_si (sh_si (sh_si (sh_si (sh_si (sh_si (F.1 145 (100, 9) rfl rfl)))))))))))))))))))))))))) rfl (jinb_of (by decide)) (by decide) ?_
    refine x_iinc (x := 6) (v := 7) (ls' := [(1, .int 7), (0, .ref 125)]) rfl rfl (by decide) rfl rfl ?_
    refine x_goto (tgt := 2) rfl rfl ?_
    refine x_iloadn (x := 7) rfl rfl ?_
    refine x_bipush (v := 9) rfl kb_9 ?_
    refine x_icge (tgt := 21) rfl rfl (br_f (by decide) ?_)
    refine x_aloadn (x := 125) rfl rfl ?_
    refine x_getR (b := 145) 12 41 rfl f_12_90 rfl (congrArg Prod.fst (sh_si (sh_si (sh_si (sh_si (sh_si (sh_si (sh_si (sh_si (sh_si (sh_si (sh_si (sh_si (sh_si (sh_si (sh_si (sh_si (sh_si (sh_si (sh_si (sh_si (sh_si (sh_si (sh_si (sh_si (sh_si (sh_si (F.1 125 (12, 92) rfl rfl)))))))))))))))))))))))))))) (rv_si (rv_si (rv_si (rv_si (rv_si (rv_si (rv_si (rv_si (rv_si (rv_si (rv_si (rv_si (rv_si (rv_si (rv_si (rv_si (rv_si (rv_si (rv_si (rv_si (rv_si (rv_si (rv_si (rv_si (rv_si (rv_si (F.2.1 16041 145 rfl rfl))))))))))))))))))))))))))) ?_
    refine x_iloadn (x := 7) rfl rfl ?_
    refine x_iconst (v := 0) rfl ki_0 ?_
    refine y_iast (N := 9) 7 rfl (sh_si (sh_si (sh_si (sh_si (sh_si (sh_si (sh_si (sh_si (sh_si (sh_si (sh_si (sh_si (sh_si (sh_si (sh_si (sh_si (sh_si (sh_si (sh_si (sh_si (sh_si (sh_si (sh_si (sh_si (sh_si (sh_si (F.1 145 (100, 9) rfl rfl))))))))))))))))))))))))))) rfl (jinb_of (by decide)) (by decide) ?_
    refine x_iinc (x := 7) (v := 8) (ls' := [(1, .int 8), (0, .ref 125)]) rfl rfl (by decide) rfl rfl ?_
    refine x_goto (tgt := 2) rfl rfl ?_
    refine x_iloadn (x := 8) rfl rfl ?_
    refine x_bipush (v := 9) rfl kb_9 ?_
    refine x_icge (tgt := 21) rfl rfl (br_f (by decide) ?_)
    refine x_aloadn (x := 125) rfl rfl ?_
    refine x_getR (b := 145) 12 41 rfl f_12_90 rfl (congrArg Prod.fst (sh_si (sh_si (sh_si (sh_si (sh_si (sh_si (sh_si (sh_si (sh_si (sh_si (sh_si (sh_si (sh_si (sh_si (sh_si (sh_si (sh_si (sh_si (sh_si (sh_si (sh_si (sh_si (sh_si (sh_si (sh_si (sh_si (sh_si (F.1 125 (12, 92) rfl rfl))))))))))))))))))))))))))))) (rv_si (rv_si (rv_si (rv_si (rv_si (rv_si (rv_si (rv_si (rv_si (rv_si (rv_si (rv_si (rv_si (rv_si (rv_si (rv_si (rv_si (rv_si (rv_si (rv_si (rv_si (rv_si (rv_si (rv_si (rv_si (rv_si (rv_si (F.2.1 16041 145 rfl rfl)))))))))))))))))))))))))))) ?_
    refine x_iloadn (x := 8) rfl rfl ?_
    refine x_iconst (v := 0) rfl ki_0 ?_
    refine y_iast (N := 9) 8 rfl (sh_si (sh_si (sh_si (sh_si (sh_si (sh_si (sh_si (sh_si (sh_si (sh_si (sh_si (sh_si (sh_si (sh_si (sh_si (sh_si (sh_si (sh_si (sh_si (sh_si (sh_si (sh_si (sh_si (sh_si (sh_si (sh_si (sh_si (F.1 145 (100, 9) rfl rfl)))))))))))))))))))))))))))) rfl (jinb_of (by decide)) (by decide) ?_
    refine x_iinc (x := 8) (v := 9) (ls' := [(1, .int 9), (0, .ref 125)]) rfl rfl (by decide) rfl rfl ?_
    refine x_goto (tgt := 2) rfl rfl ?_
    refine x_iloadn (x := 9) rfl rfl ?_
    refine x_bipush (v := 9) rfl kb_9 ?_
    refine x_icge (tgt := 21) rfl rfl (br_t (by decide) ?_)
    refine x_vret rfl rfl ?_
    show jX m_X12_findBest 99 0 0 169 [(2, .int 0), (5, .int 0), (4, .int 0), (3, .int 0), (0, .ref 125), (1, .int 0)] [] _ 0 0 _
    refine x_iconst (v := 1) rfl ki_1 ?_
    refine x_istoren (ls' := [(2, .int 1), (5, .int 0), (4, .int 0), (3, .int 0), (0, .ref 125), (1, .int 0)]) rfl rfl rfl ?_
    refine x_iloadn (x := 1) rfl rfl ?_
    refine x_ifeq (tgt := 216) rfl rfl (br_f (by decide) ?_)
    refine x_aloadn (x := 125) rfl rfl ?_
    refine x_inv (N := m_X12_groupsWorth) (As := []) (b := 125) (st := []) (d' := 98) (mc := 0) (ms := 0) (host := "") 12 rfl t_X12_groupsWorth ⟨Or.inl q_12_455, i_X12_groupsWorth.1, i_X12_groupsWorth.2⟩ ⟨by decide, rfl⟩ (congrArg Prod.fst (sh_si (sh_si (sh_si (sh_si (sh_si (sh_si (sh_si (sh_si (sh_si (sh_si (sh_si (sh_si (sh_si (sh_si (sh_si (sh_si (sh_si (sh_si (sh_si (sh_si (sh_si (sh_si (sh_si (sh_si (sh_si (sh_si (sh_si (sh_si (F.1 125 (12, 92) rfl rfl)))))))))))))))))))))))))))))) rfl (by decide) rfl rfl ⟨by decide, by decide⟩ (jC.of rfl k_X12_groupsWorth rfl ?_)
    show jX m_X12_groupsWorth 98 0 0 0 [(0, .ref 125)] [] _ 0 0 _
    refine x_iconst (v := 0) rfl ki_0 ?_
    refine x_istoren (ls' := [(1, .int 0), (0, .ref 125)]) rfl rfl rfl ?_
    refine x_iconst (v := 1) rfl ki_1 ?_
    refine x_istoren (ls' := [(2, .int 1), (1, .int 0), (0, .ref 125)]) rfl rfl rfl ?_
    refine x_iconst (v := 0) rfl ki_0 ?_
    refine x_istoren (ls' := [(3, .int 0), (2, .int 1), (1, .int 0), (0, .ref 125)]) rfl rfl rfl ?_
    refine x_iloadn (x := 0) rfl rfl ?_
    refine x_aloadn (x := 125) rfl rfl ?_
    refine y_getI (v := 0) 12 36 rfl f_12_204 rfl (congrArg Prod.fst (sh_si (sh_si (sh_si (sh_si (sh_si (sh_si (sh_si (sh_si (sh_si (sh_si (sh_si (sh_si (sh_si (sh_si (sh_si (sh_si (sh_si (sh_si (sh_si (sh_si (sh_si (sh_si (sh_si (sh_si (sh_si (sh_si (sh_si (sh_si (F.1 125 (12, 92) rfl rfl)))))))))))))))))))))))))))))) (iv_si rfl (iv_si rfl (iv_si rfl (iv_si rfl (iv_si rfl (iv_si rfl (iv_si rfl (iv_si rfl (iv_si rfl (iv_si rfl (iv_si rfl (iv_si rfl (iv_si rfl (iv_si rfl (iv_si rfl (iv_si rfl (iv_si rfl (iv_si rfl (iv_si rfl (iv_si rfl (iv_si rfl (iv_si rfl (iv_si rfl (iv_si rfl (iv_si rfl (iv_si rfl (iv_si rfl (iv_si rfl (F.2.2.1 16036 0 rfl rfl))))))))))))))))))))))))))))) ?_
    refine x_icge (tgt := 130) rfl rfl (br_t (by decide) ?_)
    refine x_iloadn (x := 1) rfl rfl ?_
    refine x_ifeq (tgt := 138) rfl rfl (br_f (by decide) ?_)
    refine x_iloadn (x := 0) rfl rfl ?_
    refine x_goto (tgt := 139) rfl rfl ?_
    refine x_iret rfl rfl ?_
    show jX m_X12_findBest 99 0 0 179 [(2, .int 1), (5, .int 0), (4, .int 0), (3, .int 0), (0, .ref 125), (1, .int 0)] [.int 0] _ 0 0 _
    refine x_istoren (ls' := [(3, .int 0), (2, .int 1), (5, .int 0), (4, .int 0), (0, .ref 125), (1, .int 0)]) rfl rfl rfl ?_
    refine x_aloadn (x := 125) rfl rfl ?_
    refine x_dup rfl rfl ?_
    refine y_getI (v := 0) 12 46 rfl f_12_463 rfl (congrArg Prod.fst (sh_si (sh_si (sh_si (sh_si (sh_si (sh_si (sh_si (sh_si (sh_si (sh_si (sh_si (sh_si (sh_si (sh_si (sh_si (sh_si (sh_si (sh_si (sh_si (sh_si (sh_si (sh_si (sh_si (sh_si (sh_si (sh_si (sh_si (sh_si (F.1 125 (12, 92) rfl rfl)))))))))))))))))))))))))))))) (iv_si rfl (iv_si rfl (iv_si rfl (iv_si rfl (iv_si rfl (iv_si rfl (iv_si rfl (iv_si rfl (iv_si rfl iv_eq))))))))) ?_
    refine x_iloadn (x := 0) rfl rfl ?_
    refine x_iflt (tgt := 203) rfl rfl (br_f (by decide) ?_)
    refine x_iloadn (x := 0) rfl rfl ?_
    refine x_aloadn (x := 125) rfl rfl ?_
    refine y_getI (v := 0) 12 43 rfl f_12_446 rfl (congrArg Prod.fst (sh_si (sh_si (sh_si (sh_si (sh_si (sh_si (sh_si (sh_si (sh_si (sh_si (sh_si (sh_si (sh_si (sh_si (sh_si (sh_si (sh_si (sh_si (sh_si (sh_si (sh_si (sh_si (sh_si (sh_si (sh_si (sh_si (sh_si (sh_si (F.1 125 (12, 92) rfl rfl)))))))))))))))))))))))))))))) (iv_si rfl (iv_si rfl (iv_si rfl (iv_si rfl (iv_si rfl (iv_si rfl (iv_si rfl (iv_si rfl (iv_si rfl (iv_si rfl (iv_si rfl iv_eq))))))))))) ?_
    refine x_iloadn (x := 0) rfl rfl ?_
    refine y_isub (v := 0) rfl (by decide) ?_
    refine x_iclt (tgt := 203) rfl rfl (br_f (by decide) ?_)
    refine x_iconst (v := 1) rfl ki_1 ?_
    refine x_goto (tgt := 204) rfl rfl ?_
    refine y_iadd (v := 1) rfl (by decide) ?_
    refine x_putI 12 46 rfl f_12_463 rfl (jfin_no TX12 RX12 92 rfl rfl) (congrArg Prod.fst (sh_si (sh_si (sh_si (sh_si (sh_si (sh_si (sh_si (sh_si (sh_si (sh_si (sh_si (sh_si (sh_si (sh_si (sh_si (sh_si (sh_si (sh_si (sh_si (sh_si (sh_si (sh_si (sh_si (sh_si (sh_si (sh_si (sh_si (sh_si (F.1 125 (12, 92) rfl rfl)))))))))))))))))))))))))))))) rfl ?_
    refine x_aloadn (x := 125) rfl rfl ?_
    refine x_inv (N := m_X12_nextGroups) (As := []) (b := 125) (st := []) (d' := 98) (mc := 0) (ms := 0) (host := "") 12 rfl t_X12_nextGroups ⟨Or.inl q_12_459, i_X12_nextGroups.1, i_X12_nextGroups.2⟩ ⟨by decide, rfl⟩ (congrArg Prod.fst (sh_si (sh_si (sh_si (sh_si (sh_si (sh_si (sh_si (sh_si (sh_si (sh_si (sh_si (sh_si (sh_si (sh_si (sh_si (sh_si (sh_si (sh_si (sh_si (sh_si (sh_si (sh_si (sh_si (sh_si (sh_si (sh_si (sh_si (sh_si (sh_si (F.1 125 (12, 92) rfl rfl))))))))))))))))))))))))))))))) rfl (by decide) rfl rfl ⟨by decide, by decide⟩ (jC.of rfl k_X12_nextGroups rfl ?_)
    show jX m_X12_nextGroups 98 0 0 0 [(0, .ref 125)] [] _ 0 0 _
    refine x_aloadn (x := 125) rfl rfl ?_
    refine y_getI (v := 0) 12 36 rfl f_12_204 rfl (congrArg Prod.fst (sh_si (sh_si (sh_si (sh_si (sh_si (sh_si (sh_si (sh_si (sh_si (sh_si (sh_si (sh_si (sh_si (sh_si (sh_si (sh_si (sh_si (sh_si (sh_si (sh_si (sh_si (sh_si (sh_si (sh_si (sh_si (sh_si (sh_si (sh_si (sh_si (F.1 125 (12, 92) rfl rfl))))))))))))))))))))))))))))))) (iv_si rfl (iv_si rfl (iv_si rfl (iv_si rfl (iv_si rfl (iv_si rfl (iv_si rfl (iv_si rfl (iv_si rfl (iv_si rfl (iv_si rfl (iv_si rfl (iv_si rfl (iv_si rfl (iv_si rfl (iv_si rfl (iv_si rfl (iv_si rfl (iv_si rfl (iv_si rfl (iv_si rfl (iv_si rfl (iv_si rfl (iv_si rfl (iv_si rfl (iv_si rfl (iv_si rfl (iv_si rfl (iv_si rfl (F.2.2.1 16036 0 rfl rfl)))))))))))))))))))))))))))))) ?_
    refine x_iconst (v := 1) rfl ki_1 ?_
    refine y_isub (v := (-1)) rfl (by decide) ?_
    refine x_istoren (ls' := [(1, .int (-1)), (0, .ref 125)]) rfl rfl rfl ?_
    refine x_iloadn (x := (-1)) rfl rfl ?_
    refine x_ifle (tgt := 100) rfl rfl (br_t (by decide) ?_)
    refine x_iconst (v := 0) rfl ki_0 ?_
    refine x_zret rfl rfl (by first | decide | exact jp_01 _) ?_
    show jX m_X12_findBest 99 0 0 212 [(3, .int 0), (2, .int 1), (5, .int 0), (4, .int 0), (0, .ref 125), (1, .int 0)] [.int 0] _ 0 0 _
    refine x_istoren (ls' := [(2, .int 0), (3, .int 0), (5, .int 0), (4, .int 0), (0, .ref 125), (1, .int 0)]) rfl rfl rfl ?_
    refine x_goto (tgt := 171) rfl rfl ?_
    refine x_iloadn (x := 0) rfl rfl ?_
    refine x_ifeq (tgt := 216) rfl rfl (br_t (by decide) ?_)
    refine x_vret rfl rfl ?_
    show jX m_X12_join 100 0 0 23 [(0, .ref 125), (1, .int a1)] [] _ 0 0 _
    refine x_iconst (v := 0) rfl ki_0 ?_
    refine x_istoren (ls' := [(2, .int 0), (0, .ref 125), (1, .int a1)]) rfl rfl rfl ?_
    refine x_iconst (v := 0) rfl ki_0 ?_
    refine x_istoren (ls' := [(3, .int 0), (2, .int 0), (0, .ref 125), (1, .int a1)]) rfl rfl rfl ?_
    refine x_iloadn (x := 0) rfl rfl ?_
    refine x_aloadn (x := 125) rfl rfl ?_
    refine y_getI (v := 0) 12 36 rfl f_12_204 rfl (congrArg Prod.fst (sh_si (sh_si (sh_si (sh_si (sh_si (sh_si (sh_si (sh_si (sh_si (sh_si (sh_si (sh_si (sh_si (sh_si (sh_si (sh_si (sh_si (sh_si (sh_si (sh_si (sh_si (sh_si (sh_si (sh_si (sh_si (sh_si (sh_si (sh_si (sh_si (F.1 125 (12, 92) rfl rfl))))))))))))))))))))))))))))))) (iv_si rfl (iv_si rfl (iv_si rfl (iv_si rfl (iv_si rfl (iv_si rfl (iv_si rfl (iv_si rfl (iv_si rfl (iv_si rfl (iv_si rfl (iv_si rfl (iv_si rfl (iv_si rfl (iv_si rfl (iv_si rfl (iv_si rfl (iv_si rfl (iv_si rfl (iv_si rfl (iv_si rfl (iv_si rfl (iv_si rfl (iv_si rfl (iv_si rfl (iv_si rfl (iv_si rfl (iv_si rfl (iv_si rfl (F.2.2.1 16036 0 rfl rfl)))))))))))))))))))))))))))))) ?_
    refine x_icge (tgt := 88) rfl rfl (br_t (by decide) ?_)
    refine x_aloadn (x := 125) rfl rfl ?_
    refine x_getR (b := 126) 12 2 rfl f_12_8 rfl (congrArg Prod.fst (sh_si (sh_si (sh_si (sh_si (sh_si (sh_si (sh_si (sh_si (sh_si (sh_si (sh_si (sh_si (sh_si (sh_si (sh_si (sh_si (sh_si (sh_si (sh_si (sh_si (sh_si (sh_si (sh_si (sh_si (sh_si (sh_si (sh_si (sh_si (sh_si (F.1 125 (12, 92) rfl rfl))))))))))))))))))))))))))))))) (rv_si (rv_si (rv_si (rv_si (rv_si (rv_si (rv_si (rv_si (rv_si (rv_si (rv_si (rv_si (rv_si (rv_si (rv_si (rv_si (rv_si (rv_si (rv_si (rv_si (rv_si (rv_si (rv_si (rv_si (rv_si (rv_si (rv_si (rv_si (rv_si (F.2.1 16002 126 rfl rfl)))))))))))))))))))))))))))))) ?_
    refine x_iconst (v := 2) rfl ki_2 ?_
    refine y_iald (v := 0) (N := 50660) 2 rfl (sh_si (sh_si (sh_si (sh_si (sh_si (sh_si (sh_si (sh_si (sh_si (sh_si (sh_si (sh_si (sh_si (sh_si (sh_si (sh_si (sh_si (sh_si (sh_si (sh_si (sh_si (sh_si (sh_si (sh_si (sh_si (sh_si (sh_si (sh_si (sh_si (F.1 126 (100, 50660) rfl rfl)))))))))))))))))))))))))))))) (jinb_of (by decide)) (by decide) (iv_si rfl (iv_si rfl (iv_si rfl (iv_si rfl (iv_si rfl (iv_si rfl (iv_si rfl (iv_si rfl (iv_si rfl (iv_si rfl (iv_si rfl (iv_si rfl (iv_si rfl (iv_si rfl (iv_si rfl (iv_si rfl (iv_si rfl (iv_si rfl (iv_si rfl (iv_si rfl (iv_si rfl (iv_si rfl (iv_si rfl (iv_si rfl (iv_si rfl (iv_si rfl (iv_si rfl (iv_si rfl (iv_si rfl (F.2.2.2.1 126 rfl rfl 2).1))))))))))))))))))))))))))))) ?_
    refine x_iloadn (x := 0) rfl rfl ?_
    refine y_iadd (v := 0) rfl (by decide) ?_
    refine x_sipush (v := 200) rfl ks_200 ?_
    refine x_icle (tgt := 109) rfl rfl (br_t (by decide) ?_)
    refine x_iconst (v := 0) rfl ki_0 ?_
    refine x_istoren (ls' := [(3, .int 0), (2, .int 0), (0, .ref 125), (1, .int a1)]) rfl rfl rfl ?_
    refine x_iloadn (x := 0) rfl rfl ?_
    refine x_aloadn (x := 125) rfl rfl ?_
    refine y_getI (v := 0) 12 36 rfl f_12_204 rfl (congrArg Prod.fst (sh_si (sh_si (sh_si (sh_si (sh_si (sh_si (sh_si (sh_si (sh_si (sh_si (sh_si (sh_si (sh_si (sh_si (sh_si (sh_si (sh_si (sh_si (sh_si (sh_si (sh_si (sh_si (sh_si (sh_si (sh_si (sh_si (sh_si (sh_si (sh_si (F.1 125 (12, 92) rfl rfl))))))))))))))))))))))))))))))) (iv_si rfl (iv_si rfl (iv_si rfl (iv_si rfl (iv_si rfl (iv_si rfl (iv_si rfl (iv_si rfl (iv_si rfl (iv_si rfl (iv_si rfl (iv_si rfl (iv_si rfl (iv_si rfl (iv_si rfl (iv_si rfl (iv_si rfl (iv_si rfl (iv_si rfl (iv_si rfl (iv_si rfl (iv_si rfl (iv_si rfl (iv_si rfl (iv_si rfl (iv_si rfl (iv_si rfl (iv_si rfl (iv_si rfl (F.2.2.1 16036 0 rfl rfl)))))))))))))))))))))))))))))) ?_
    refine x_icge (tgt := 182) rfl rfl (br_t (by decide) ?_)
    refine x_aloadn (x := 125) rfl rfl ?_
    refine x_iloadn (x := 0) rfl rfl ?_
    refine x_inv (N := m_X12_told) (As := [.int 0]) (b := 125) (st := []) (d' := 99) (mc := 0) (ms := 0) (host := "") 12 rfl t_X12_told ⟨Or.inl q_12_197, i_X12_told.1, i_X12_told.2⟩ ⟨by decide, rfl⟩ (congrArg Prod.fst (sh_si (sh_si (sh_si (sh_si (sh_si (sh_si (sh_si (sh_si (sh_si (sh_si (sh_si (sh_si (sh_si (sh_si (sh_si (sh_si (sh_si (sh_si (sh_si (sh_si (sh_si (sh_si (sh_si (sh_si (sh_si (sh_si (sh_si (sh_si (sh_si (F.1 125 (12, 92) rfl rfl))))))))))))))))))))))))))))))) rfl (by decide) rfl rfl ⟨by decide, by decide⟩ (jC.of rfl k_X12_told rfl ?_)
    show jX m_X12_told 99 0 0 0 [(0, .ref 125), (1, .int 0)] [] _ 0 0 _
    refine x_aloadn (x := 125) rfl rfl ?_
    refine x_iloadn (x := 0) rfl rfl ?_
    refine x_ifge (tgt := 9) rfl rfl (br_t (by decide) ?_)
    refine x_iconst (v := 0) rfl ki_0 ?_
    refine x_putI 12 1 rfl f_12_183 rfl (jfin_no TX12 RX12 92 rfl rfl) (congrArg Prod.fst (sh_si (sh_si (sh_si (sh_si (sh_si (sh_si (sh_si (sh_si (sh_si (sh_si (sh_si (sh_si (sh_si (sh_si (sh_si (sh_si (sh_si (sh_si (sh_si (sh_si (sh_si (sh_si (sh_si (sh_si (sh_si (sh_si (sh_si (sh_si (sh_si (F.1 125 (12, 92) rfl rfl))))))))))))))))))))))))))))))) rfl ?_
    refine x_iloadn (x := 0) rfl rfl ?_
    refine x_iret rfl rfl ?_
    show jX m_X12_join 100 0 0 187 [(3, .int 0), (2, .int 0), (0, .ref 125), (1, .int a1)] [.int 0] _ 0 0 _
    refine x_iret rfl rfl ?_
    exact jqe (show sp_join a1 = 0 by unfold sp_join; (repeat' split) <;> first | rfl | (exfalso; omega)) (hQ _ (jOl_si rfl (jOl_si rfl (jOl_si rfl (jOl_si rfl (jOl_si rfl (jOl_si rfl (jOl_si rfl (jOl_si rfl (jOl_si rfl (jOl_si rfl (jOl_si rfl (jOl_si rfl (jOl_si rfl (jOl_si rfl (jOl_si rfl (jOl_si rfl (jOl_si rfl (jOl_si rfl (jOl_si rfl (jOl_si rfl (jOl_si rfl (jOl_si rfl (jOl_si rfl (jOl_si rfl (jOl_si rfl (jOl_si rfl (jOl_si rfl (jOl_si rfl (jOl_si rfl (jOl_si rfl O)))))))))))))))))))))))))))))))
  ·
    refine x_aloadn (x := 125) rfl rfl ?_
    refine x_iconst (v := (-1)) rfl ki_m1 ?_
    refine x_inv (N := m_X12_told) (As := [.int (-1)]) (b := 125) (st := []) (d' := 99) (mc := 0) (ms := 0) (host := "") 12 rfl t_X12_told ⟨Or.inl q_12_197, i_X12_told.1, i_X12_told.2⟩ ⟨by decide, rfl⟩ (congrArg Prod.fst (sh_si (F.1 125 (12, 92) rfl rfl))) rfl (by decide) rfl rfl ⟨by decide, by decide⟩ (jC.of rfl k_X12_told rfl ?_)
    show jX m_X12_told 99 0 0 0 [(0, .ref 125), (1, .int (-1))] [] _ 0 0 _
    refine x_aloadn (x := 125) rfl rfl ?_
    refine x_iloadn (x := (-1)) rfl rfl ?_
    refine x_ifge (tgt := 9) rfl rfl (br_f (by decide) ?_)
    refine x_iloadn (x := (-1)) rfl rfl ?_
    refine x_goto (tgt := 10) rfl rfl ?_
    refine x_putI 12 1 rfl f_12_183 rfl (jfin_no TX12 RX12 92 rfl rfl) (congrArg Prod.fst (sh_si (F.1 125 (12, 92) rfl rfl))) rfl ?_
    refine x_iloadn (x := (-1)) rfl rfl ?_
    refine x_iret rfl rfl ?_
    show jX m_X12_join 100 0 0 17 [(0, .ref 125), (1, .int a1)] [.int (-1)] _ 0 0 _
    refine x_iret rfl rfl ?_
    exact jqe (show sp_join a1 = (-1) by unfold sp_join; (repeat' split) <;> first | rfl | (exfalso; omega)) (hQ _ (jOl_si rfl (jOl_si rfl O)))
def sp_torn (a1 a2 a3 a4 : Int32) : Int32 := if (0 ≤ a1.toInt ∧ a1.toInt ≤ 5) ∧ (0 ≤ a2.toInt ∧ a2.toInt ≤ 146399) ∧ (0 ≤ a3.toInt ∧ a3.toInt ≤ 146399) ∧ a2.toInt ≤ a3.toInt ∧ (0 ≤ a4.toInt ∧ a4.toInt ≤ 146399) then 1 else (-1)
set_option maxRecDepth 100000 in
set_option maxHeartbeats 40000000 in
theorem px_torn (a1 a2 a3 a4 : Int32) {xs : Nat → Int32} {h : jH} {Q : Option Value → jH → Prop} (F : jFb 31 h) (O : jOl 7 xs h) (hQ : ∀ h', jFb 125 h' → jOl 7 xs h' → Q (some (.int (sp_torn a1 a2 a3 a4))) h') : jC m_X11_torn 100 0 0 [.ref 31, .int a1, .int a2, .int a3, .int a4] h Q := by
  have FM := jFb_up 125 rfl F
  refine jC.of rfl k_X11_torn rfl ?_
  show jX m_X11_torn 100 0 0 0 [(0, .ref 31), (1, .int a1), (2, .int a2), (3, .int a3), (4, .int a4)] [] _ 0 0 _
  refine x_iloadn (x := a1) rfl rfl ?_
  refine x_inst (N := m_X11_isBook) (As := [.int a1]) (st := []) (d' := 99) (mc := 0) (ms := 0) (host := "") rfl t_X11_isBook ⟨Or.inl q_11_112, s_X11_isBook⟩ rfl (by decide) rfl rfl ⟨by decide, by decide⟩ (c_X11_isBook (x := a1) ?_)
  show jX m_X11_torn 100 0 0 4 [(0, .ref 31), (1, .int a1), (2, .int a2), (3, .int a3), (4, .int a4)] [.int (jp (0 ≤ a1.toInt ∧ a1.toInt ≤ 5))] _ 0 0 _
  refine x_ifeq (tgt := 34) rfl rfl (jpe ⟨fun c1 => ?_, fun c1 => ?_⟩)
  ·
    refine x_aloadn (x := 31) rfl rfl ?_
    refine x_iconst (v := (-1)) rfl ki_m1 ?_
    refine x_inv (N := m_X11_refuse) (As := [.int (-1)]) (b := 31) (st := []) (d' := 99) (mc := 0) (ms := 0) (host := "") 11 rfl t_X11_refuse ⟨Or.inl q_11_206, i_X11_refuse.1, i_X11_refuse.2⟩ ⟨by decide, rfl⟩ (congrArg Prod.fst (F.1 31 (11, 13) rfl rfl)) rfl (by decide) rfl rfl ⟨by decide, by decide⟩ (jC.of rfl k_X11_refuse rfl ?_)
    show jX m_X11_refuse 99 0 0 0 [(0, .ref 31), (1, .int (-1))] [] _ 0 0 _
    refine x_aloadn (x := 31) rfl rfl ?_
    refine x_iloadn (x := (-1)) rfl rfl ?_
    refine x_putI 11 12 rfl f_11_94 rfl (jfin_no TX11 RX11 13 rfl rfl) (congrArg Prod.fst (F.1 31 (11, 13) rfl rfl)) rfl ?_
    refine x_iloadn (x := (-1)) rfl rfl ?_
    refine x_iret rfl rfl ?_
    show jX m_X11_torn 100 0 0 39 [(0, .ref 31), (1, .int a1), (2, .int a2), (3, .int a3), (4, .int a4)] [.int (-1)] _ 0 0 _
    refine x_iret rfl rfl ?_
    exact jqe (show sp_torn a1 a2 a3 a4 = (-1) by unfold sp_torn; (repeat' split) <;> first | rfl | (exfalso; omega)) (hQ _ (jFb_si rfl FM) (jOl_si rfl O))
  ·
    refine x_iloadn (x := a2) rfl rfl ?_
    refine x_inst (N := m_X11_isDay) (As := [.int a2]) (st := []) (d' := 99) (mc := 0) (ms := 0) (host := "") rfl t_X11_isDay ⟨Or.inl q_11_115, s_X11_isDay⟩ rfl (by decide) rfl rfl ⟨by decide, by decide⟩ (c_X11_isDay (x := a2) ?_)
    show jX m_X11_torn 100 0 0 11 [(0, .ref 31), (1, .int a1), (2, .int a2), (3, .int a3), (4, .int a4)] [.int (jp (0 ≤ a2.toInt ∧ a2.toInt ≤ 146399))] _ 0 0 _
    refine x_ifeq (tgt := 34) rfl rfl (jpe ⟨fun c2 => ?_, fun c2 => ?_⟩)
    ·
      refine x_aloadn (x := 31) rfl rfl ?_
      refine x_iconst (v := (-1)) rfl ki_m1 ?_
      refine x_inv (N := m_X11_refuse) (As := [.int (-1)]) (b := 31) (st := []) (d' := 99) (mc := 0) (ms := 0) (host := "") 11 rfl t_X11_refuse ⟨Or.inl q_11_206, i_X11_refuse.1, i_X11_refuse.2⟩ ⟨by decide, rfl⟩ (congrArg Prod.fst (F.1 31 (11, 13) rfl rfl)) rfl (by decide) rfl rfl ⟨by decide, by decide⟩ (jC.of rfl k_X11_refuse rfl ?_)
      show jX m_X11_refuse 99 0 0 0 [(0, .ref 31), (1, .int (-1))] [] _ 0 0 _
      refine x_aloadn (x := 31) rfl rfl ?_
      refine x_iloadn (x := (-1)) rfl rfl ?_
      refine x_putI 11 12 rfl f_11_94 rfl (jfin_no TX11 RX11 13 rfl rfl) (congrArg Prod.fst (F.1 31 (11, 13) rfl rfl)) rfl ?_
      refine x_iloadn (x := (-1)) rfl rfl ?_
      refine x_iret rfl rfl ?_
      show jX m_X11_torn 100 0 0 39 [(0, .ref 31), (1, .int a1), (2, .int a2), (3, .int a3), (4, .int a4)] [.int (-1)] _ 0 0 _
      refine x_iret rfl rfl ?_
      exact jqe (show sp_torn a1 a2 a3 a4 = (-1) by unfold sp_torn; (repeat' split) <;> first | rfl | (exfalso; omega)) (hQ _ (jFb_si rfl FM) (jOl_si rfl O))
    ·
      refine x_iloadn (x := a3) rfl rfl ?_
      refine x_inst (N := m_X11_isDay) (As := [.int a3]) (st := []) (d' := 99) (mc := 0) (ms := 0) (host := "") rfl t_X11_isDay ⟨Or.inl q_11_115, s_X11_isDay⟩ rfl (by decide) rfl rfl ⟨by decide, by decide⟩ (c_X11_isDay (x := a3) ?_)
      show jX m_X11_torn 100 0 0 18 [(0, .ref 31), (1, .int a1), (2, .int a2), (3, .int a3), (4, .int a4)] [.int (jp (0 ≤ a3.toInt ∧ a3.toInt ≤ 146399))] _ 0 0 _
      refine x_ifeq (tgt := 34) rfl rfl (jpe ⟨fun c3 => ?_, fun c3 => ?_⟩)
      ·
        refine x_aloadn (x := 31) rfl rfl ?_
        refine x_iconst (v := (-1)) rfl ki_m1 ?_
        refine x_inv (N := m_X11_refuse) (As := [.int (-1)]) (b := 31) (st := []) (d' := 99) (mc := 0) (ms := 0) (host := "") 11 rfl t_X11_refuse ⟨Or.inl q_11_206, i_X11_refuse.1, i_X11_refuse.2⟩ ⟨by decide, rfl⟩ (congrArg Prod.fst (F.1 31 (11, 13) rfl rfl)) rfl (by decide) rfl rfl ⟨by decide, by decide⟩ (jC.of rfl k_X11_refuse rfl ?_)
        show jX m_X11_refuse 99 0 0 0 [(0, .ref 31), (1, .int (-1))] [] _ 0 0 _
        refine x_aloadn (x := 31) rfl rfl ?_
        refine x_iloadn (x := (-1)) rfl rfl ?_
        refine x_putI 11 12 rfl f_11_94 rfl (jfin_no TX11 RX11 13 rfl rfl) (congrArg Prod.fst (F.1 31 (11, 13) rfl rfl)) rfl ?_
        refine x_iloadn (x := (-1)) rfl rfl ?_
        refine x_iret rfl rfl ?_
        show jX m_X11_torn 100 0 0 39 [(0, .ref 31), (1, .int a1), (2, .int a2), (3, .int a3), (4, .int a4)] [.int (-1)] _ 0 0 _
        refine x_iret rfl rfl ?_
        exact jqe (show sp_torn a1 a2 a3 a4 = (-1) by unfold sp_torn; (repeat' split) <;> first | rfl | (exfalso; omega)) (hQ _ (jFb_si rfl FM) (jOl_si rfl O))
      ·
        refine x_iloadn (x := a3) rfl rfl ?_
        refine x_iloadn (x := a2) rfl rfl ?_
        refine x_iclt (tgt := 34) rfl rfl (ti_lt (show (a3 : Int32).toInt = a3.toInt from rfl) (show (a2 : Int32).toInt = a2.toInt from rfl) ⟨fun c4 => ?_, fun c4 => ?_⟩)
        ·
          refine x_aloadn (x := 31) rfl rfl ?_
          refine x_iconst (v := (-1)) rfl ki_m1 ?_
          refine x_inv (N := m_X11_refuse) (As := [.int (-1)]) (b := 31) (st := []) (d' := 99) (mc := 0) (ms := 0) (host := "") 11 rfl t_X11_refuse ⟨Or.inl q_11_206, i_X11_refuse.1, i_X11_refuse.2⟩ ⟨by decide, rfl⟩ (congrArg Prod.fst (F.1 31 (11, 13) rfl rfl)) rfl (by decide) rfl rfl ⟨by decide, by decide⟩ (jC.of rfl k_X11_refuse rfl ?_)
          show jX m_X11_refuse 99 0 0 0 [(0, .ref 31), (1, .int (-1))] [] _ 0 0 _
          refine x_aloadn (x := 31) rfl rfl ?_
          refine x_iloadn (x := (-1)) rfl rfl ?_
          refine x_putI 11 12 rfl f_11_94 rfl (jfin_no TX11 RX11 13 rfl rfl) (congrArg Prod.fst (F.1 31 (11, 13) rfl rfl)) rfl ?_
          refine x_iloadn (x := (-1)) rfl rfl ?_
          refine x_iret rfl rfl ?_
          show jX m_X11_torn 100 0 0 39 [(0, .ref 31), (1, .int a1), (2, .int a2), (3, .int a3), (4, .int a4)] [.int (-1)] _ 0 0 _
          refine x_iret rfl rfl ?_
          exact jqe (show sp_torn a1 a2 a3 a4 = (-1) by unfold sp_torn; (repeat' split) <;> first | rfl | (exfalso; omega)) (hQ _ (jFb_si rfl FM) (jOl_si rfl O))
        ·
          refine x_iload (x := a4) rfl rfl ?_
          refine x_inst (N := m_X11_isDay) (As := [.int a4]) (st := []) (d' := 99) (mc := 0) (ms := 0) (host := "") rfl t_X11_isDay ⟨Or.inl q_11_115, s_X11_isDay⟩ rfl (by decide) rfl rfl ⟨by decide, by decide⟩ (c_X11_isDay (x := a4) ?_)
          show jX m_X11_torn 100 0 0 31 [(0, .ref 31), (1, .int a1), (2, .int a2), (3, .int a3), (4, .int a4)] [.int (jp (0 ≤ a4.toInt ∧ a4.toInt ≤ 146399))] _ 0 0 _
          refine x_ifne (tgt := 40) rfl rfl (jpn ⟨fun c5 => ?_, fun c5 => ?_⟩)
          ·
            refine x_aloadn (x := 31) rfl rfl ?_
            refine x_getR (b := 32) 11 0 rfl f_11_10 rfl (congrArg Prod.fst (F.1 31 (11, 13) rfl rfl)) (F.2.1 3968 32 rfl rfl) ?_
            refine x_getR (b := 41) 1 4 rfl f_11_312 rfl (congrArg Prod.fst (F.1 32 (1, 20) rfl rfl)) (F.2.1 4100 41 rfl rfl) ?_
            refine x_inv (N := m_X8_isFull) (As := []) (b := 41) (st := []) (d' := 99) (mc := 0) (ms := 0) (host := "") 8 rfl t_X8_isFull ⟨Or.inl q_11_130, i_X8_isFull.1, i_X8_isFull.2⟩ ⟨by decide, rfl⟩ (congrArg Prod.fst (F.1 41 (8, 4) rfl rfl)) rfl (by decide) rfl rfl ⟨by decide, by decide⟩ (jC.of rfl k_X8_isFull rfl ?_)
            show jX m_X8_isFull 99 0 0 0 [(0, .ref 41)] [] _ 0 0 _
            refine x_aloadn (x := 41) rfl rfl ?_
            refine y_getI (v := 0) 8 3 rfl f_8_7 rfl (congrArg Prod.fst (F.1 41 (8, 4) rfl rfl)) (F.2.2.1 5251 0 rfl rfl) ?_
            refine x_aloadn (x := 41) rfl rfl ?_
            refine y_getI (v := 20) 8 1 rfl f_8_22 rfl (congrArg Prod.fst (F.1 41 (8, 4) rfl rfl)) (F.2.2.1 5249 20 rfl rfl) ?_
            refine x_iclt (tgt := 15) rfl rfl (br_t (by decide) ?_)
            refine x_iconst (v := 0) rfl ki_0 ?_
            refine x_zret rfl rfl (by first | decide | exact jp_01 _) ?_
            show jX m_X11_torn 100 0 0 50 [(0, .ref 31), (1, .int a1), (2, .int a2), (3, .int a3), (4, .int a4)] [.int 0] _ 0 0 _
            refine x_ifeq (tgt := 60) rfl rfl (br_t (by decide) ?_)
            refine x_aloadn (x := 31) rfl rfl ?_
            refine x_getR (b := 32) 11 0 rfl f_11_10 rfl (congrArg Prod.fst (F.1 31 (11, 13) rfl rfl)) (F.2.1 3968 32 rfl rfl) ?_
            refine x_getR (b := 41) 1 4 rfl f_11_312 rfl (congrArg Prod.fst (F.1 32 (1, 20) rfl rfl)) (F.2.1 4100 41 rfl rfl) ?_
            refine x_iload (x := a4) rfl rfl ?_
            refine x_iloadn (x := a2) rfl rfl ?_
            refine x_iloadn (x := a3) rfl rfl ?_
            refine x_iloadn (x := a1) rfl rfl ?_
            refine x_iconst (v := 0) rfl ki_0 ?_
            refine x_iconst (v := 0) rfl ki_0 ?_
            refine x_inv (N := m_X8_add) (As := [.int a4, .int a2, .int a3, .int a1, .int 0, .int 0]) (b := 41) (st := []) (d' := 99) (mc := 0) (ms := 0) (host := "") 8 rfl t_X8_add ⟨Or.inl q_11_145, i_X8_add.1, i_X8_add.2⟩ ⟨by decide, rfl⟩ (congrArg Prod.fst (F.1 41 (8, 4) rfl rfl)) rfl (by decide) rfl rfl ⟨by decide, by decide⟩ (jC.of rfl k_X8_add rfl ?_)
            show jX m_X8_add 99 0 0 0 [(0, .ref 41), (1, .int a4), (2, .int a2), (3, .int a3), (4, .int a1), (5, .int 0), (6, .int 0)] [] _ 0 0 _
            refine x_aloadn (x := 41) rfl rfl ?_
            refine y_getI (v := 0) 8 3 rfl f_8_7 rfl (congrArg Prod.fst (F.1 41 (8, 4) rfl rfl)) (F.2.2.1 5251 0 rfl rfl) ?_
            refine x_aloadn (x := 41) rfl rfl ?_
            refine y_getI (v := 20) 8 1 rfl f_8_22 rfl (congrArg Prod.fst (F.1 41 (8, 4) rfl rfl)) (F.2.2.1 5249 20 rfl rfl) ?_
            refine x_iclt (tgt := 12) rfl rfl (br_t (by decide) ?_)
            refine x_aloadn (x := 41) rfl rfl ?_
            refine y_getI (v := 0) 8 3 rfl f_8_7 rfl (congrArg Prod.fst (F.1 41 (8, 4) rfl rfl)) (F.2.2.1 5251 0 rfl rfl) ?_
            refine x_istore (ls' := [(7, .int 0), (0, .ref 41), (1, .int a4), (2, .int a2), (3, .int a3), (4, .int a1), (5, .int 0), (6, .int 0)]) rfl rfl rfl ?_
            refine x_aloadn (x := 41) rfl rfl ?_
            refine x_iload (x := 0) rfl rfl ?_
            refine x_iconst (v := 1) rfl ki_1 ?_
            refine y_iadd (v := 1) rfl (by decide) ?_
            refine x_putI 8 3 rfl f_8_7 rfl (jfin_no TX8 RX8 4 rfl rfl) (congrArg Prod.fst (F.1 41 (8, 4) rfl rfl)) rfl ?_
            refine x_aloadn (x := 41) rfl rfl ?_
            refine x_iload (x := 0) rfl rfl ?_
            refine x_iconst (v := 0) rfl ki_0 ?_
            refine x_iloadn (x := a4) rfl rfl ?_
            refine x_inv (N := m_X8_put) (As := [.int 0, .int 0, .int a4]) (b := 41) (st := []) (d' := 98) (mc := 0) (ms := 0) (host := "") 8 rfl t_X8_put ⟨Or.inl q_8_29, i_X8_put.1, i_X8_put.2⟩ ⟨by decide, rfl⟩ (congrArg Prod.fst (sh_si (F.1 41 (8, 4) rfl rfl))) rfl (by decide) rfl rfl ⟨by decide, by decide⟩ (jC.of rfl k_X8_put rfl ?_)
            show jX m_X8_put 98 0 0 0 [(0, .ref 41), (1, .int 0), (2, .int 0), (3, .int a4)] [] _ 0 0 _
            refine x_iloadn (x := 0) rfl rfl ?_
            refine x_iflt (tgt := 38) rfl rfl (br_f (by decide) ?_)
            refine x_iloadn (x := 0) rfl rfl ?_
            refine x_aloadn (x := 41) rfl rfl ?_
            refine y_getI (v := 1) 8 3 rfl f_8_7 rfl (congrArg Prod.fst (sh_si (F.1 41 (8, 4) rfl rfl))) iv_eq ?_
            refine x_icge (tgt := 38) rfl rfl (br_f (by decide) ?_)
            refine x_iloadn (x := 0) rfl rfl ?_
            refine x_iflt (tgt := 38) rfl rfl (br_f (by decide) ?_)
            refine x_iloadn (x := 0) rfl rfl ?_
            refine x_aloadn (x := 41) rfl rfl ?_
            refine y_getI (v := 4) 8 0 rfl f_8_19 rfl (congrArg Prod.fst (sh_si (F.1 41 (8, 4) rfl rfl))) (iv_si rfl (F.2.2.1 5248 4 rfl rfl)) ?_
            refine x_icge (tgt := 38) rfl rfl (br_f (by decide) ?_)
            refine x_aloadn (x := 41) rfl rfl ?_
            refine x_getR (b := 42) 8 2 rfl f_8_25 rfl (congrArg Prod.fst (sh_si (F.1 41 (8, 4) rfl rfl))) (rv_si (F.2.1 5250 42 rfl rfl)) ?_
            refine x_iloadn (x := 0) rfl rfl ?_
            refine x_aloadn (x := 41) rfl rfl ?_
            refine y_getI (v := 4) 8 0 rfl f_8_19 rfl (congrArg Prod.fst (sh_si (F.1 41 (8, 4) rfl rfl))) (iv_si rfl (F.2.2.1 5248 4 rfl rfl)) ?_
            refine y_imul (v := 0) rfl (by decide) ?_
            refine x_iloadn (x := 0) rfl rfl ?_
            refine y_iadd (v := 0) rfl (by decide) ?_
            refine x_iloadn (x := a4) rfl rfl ?_
            refine y_iast (N := 80) 0 rfl (sh_si (F.1 42 (100, 80) rfl rfl)) rfl (jinb_of (by decide)) (by decide) ?_
            refine x_vret rfl rfl ?_
            show jX m_X8_add 99 0 0 34 [(7, .int 0), (0, .ref 41), (1, .int a4), (2, .int a2), (3, .int a3), (4, .int a1), (5, .int 0), (6, .int 0)] [] _ 0 0 _
            refine x_aloadn (x := 41) rfl rfl ?_
            refine x_iload (x := 0) rfl rfl ?_
            refine x_iconst (v := 1) rfl ki_1 ?_
            refine x_iloadn (x := a2) rfl rfl ?_
            refine x_inv (N := m_X8_put) (As := [.int 0, .int 1, .int a2]) (b := 41) (st := []) (d' := 98) (mc := 0) (ms := 0) (host := "") 8 rfl t_X8_put ⟨Or.inl q_8_29, i_X8_put.1, i_X8_put.2⟩ ⟨by decide, rfl⟩ (congrArg Prod.fst (sh_si (sh_si (F.1 41 (8, 4) rfl rfl)))) rfl (by decide) rfl rfl ⟨by decide, by decide⟩ (jC.of rfl k_X8_put rfl ?_)
            show jX m_X8_put 98 0 0 0 [(0, .ref 41), (1, .int 0), (2, .int 1), (3, .int a2)] [] _ 0 0 _
            refine x_iloadn (x := 0) rfl rfl ?_
            refine x_iflt (tgt := 38) rfl rfl (br_f (by decide) ?_)
            refine x_iloadn (x := 0) rfl rfl ?_
            refine x_aloadn (x := 41) rfl rfl ?_
            refine y_getI (v := 1) 8 3 rfl f_8_7 rfl (congrArg Prod.fst (sh_si (sh_si (F.1 41 (8, 4) rfl rfl)))) (iv_si rfl iv_eq) ?_
            refine x_icge (tgt := 38) rfl rfl (br_f (by decide) ?_)
            refine x_iloadn (x := 1) rfl rfl ?_
            refine x_iflt (tgt := 38) rfl rfl (br_f (by decide) ?_)
            refine x_iloadn (x := 1) rfl rfl ?_
            refine x_aloadn (x := 41) rfl rfl ?_
            refine y_getI (v := 4) 8 0 rfl f_8_19 rfl (congrArg Prod.fst (sh_si (sh_si (F.1 41 (8, 4) rfl rfl)))) (iv_si rfl (iv_si rfl (F.2.2.1 5248 4 rfl rfl))) ?_
            refine x_icge (tgt := 38) rfl rfl (br_f (by decide) ?_)
            refine x_aloadn (x := 41) rfl rfl ?_
            refine x_getR (b := 42) 8 2 rfl f_8_25 rfl (congrArg Prod.fst (sh_si (sh_si (F.1 41 (8, 4) rfl rfl)))) (rv_si (rv_si (F.2.1 5250 42 rfl rfl))) ?_
            refine x_iloadn (x := 0) rfl rfl ?_
            refine x_aloadn (x := 41) rfl rfl ?_
            refine y_getI (v := 4) 8 0 rfl f_8_19 rfl (congrArg Prod.fst (sh_si (sh_si (F.1 41 (8, 4) rfl rfl)))) (iv_si rfl (iv_si rfl (F.2.2.1 5248 4 rfl rfl))) ?_
            refine y_imul (v := 0) rfl (by decide) ?_
            refine x_iloadn (x := 1) rfl rfl ?_
            refine y_iadd (v := 1) rfl (by decide) ?_
            refine x_iloadn (x := a2) rfl rfl ?_
            refine y_iast (N := 80) 1 rfl (sh_si (sh_si (F.1 42 (100, 80) rfl rfl))) rfl (jinb_of (by decide)) (by decide) ?_
            refine x_vret rfl rfl ?_
            show jX m_X8_add 99 0 0 42 [(7, .int 0), (0, .ref 41), (1, .int a4), (2, .int a2), (3, .int a3), (4, .int a1), (5, .int 0), (6, .int 0)] [] _ 0 0 _
            refine x_aloadn (x := 41) rfl rfl ?_
            refine x_iload (x := 0) rfl rfl ?_
            refine x_iconst (v := 2) rfl ki_2 ?_
            refine x_iloadn (x := a3) rfl rfl ?_
            refine x_inv (N := m_X8_put) (As := [.int 0, .int 2, .int a3]) (b := 41) (st := []) (d' := 98) (mc := 0) (ms := 0) (host := "") 8 rfl t_X8_put ⟨Or.inl q_8_29, i_X8_put.1, i_X8_put.2⟩ ⟨by decide, rfl⟩ (congrArg Prod.fst (sh_si (sh_si (sh_si (F.1 41 (8, 4) rfl rfl))))) rfl (by decide) rfl rfl ⟨by decide, by decide⟩ (jC.of rfl k_X8_put rfl ?_)
            show jX m_X8_put 98 0 0 0 [(0, .ref 41), (1, .int 0), (2, .int 2), (3, .int a3)] [] _ 0 0 _
            refine x_iloadn (x := 0) rfl rfl ?_
            refine x_iflt (tgt := 38) rfl rfl (br_f (by decide) ?_)
            refine x_iloadn (x := 0) rfl rfl ?_
            refine x_aloadn (x := 41) rfl rfl ?_
            refine y_getI (v := 1) 8 3 rfl f_8_7 rfl (congrArg Prod.fst (sh_si (sh_si (sh_si (F.1 41 (8, 4) rfl rfl))))) (iv_si rfl (iv_si rfl iv_eq)) ?_
            refine x_icge (tgt := 38) rfl rfl (br_f (by decide) ?_)
            refine x_iloadn (x := 2) rfl rfl ?_
            refine x_iflt (tgt := 38) rfl rfl (br_f (by decide) ?_)
            refine x_iloadn (x := 2) rfl rfl ?_
            refine x_aloadn (x := 41) rfl rfl ?_
            refine y_getI (v := 4) 8 0 rfl f_8_19 rfl (congrArg Prod.fst (sh_si (sh_si (sh_si (F.1 41 (8, 4) rfl rfl))))) (iv_si rfl (iv_si rfl (iv_si rfl (F.2.2.1 5248 4 rfl rfl)))) ?_
            refine x_icge (tgt := 38) rfl rfl (br_f (by decide) ?_)
            refine x_aloadn (x := 41) rfl rfl ?_
            refine x_getR (b := 42) 8 2 rfl f_8_25 rfl (congrArg Prod.fst (sh_si (sh_si (sh_si (F.1 41 (8, 4) rfl rfl))))) (rv_si (rv_si (rv_si (F.2.1 5250 42 rfl rfl)))) ?_
            refine x_iloadn (x := 0) rfl rfl ?_
            refine x_aloadn (x := 41) rfl rfl ?_
            refine y_getI (v := 4) 8 0 rfl f_8_19 rfl (congrArg Prod.fst (sh_si (sh_si (sh_si (F.1 41 (8, 4) rfl rfl))))) (iv_si rfl (iv_si rfl (iv_si rfl (F.2.2.1 5248 4 rfl rfl)))) ?_
            refine y_imul (v := 0) rfl (by decide) ?_
            refine x_iloadn (x := 2) rfl rfl ?_
            refine y_iadd (v := 2) rfl (by decide) ?_
            refine x_iloadn (x := a3) rfl rfl ?_
            refine y_iast (N := 80) 2 rfl (sh_si (sh_si (sh_si (F.1 42 (100, 80) rfl rfl)))) rfl (jinb_of (by decide)) (by decide) ?_
            refine x_vret rfl rfl ?_
            show jX m_X8_add 99 0 0 50 [(7, .int 0), (0, .ref 41), (1, .int a4), (2, .int a2), (3, .int a3), (4, .int a1), (5, .int 0), (6, .int 0)] [] _ 0 0 _
            refine x_aloadn (x := 41) rfl rfl ?_
            refine x_iload (x := 0) rfl rfl ?_
            refine x_iconst (v := 3) rfl ki_3 ?_
            refine x_iload (x := a1) rfl rfl ?_
            refine x_inv (N := m_X8_put) (As := [.int 0, .int 3, .int a1]) (b := 41) (st := []) (d' := 98) (mc := 0) (ms := 0) (host := "") 8 rfl t_X8_put ⟨Or.inl q_8_29, i_X8_put.1, i_X8_put.2⟩ ⟨by decide, rfl⟩ (congrArg Prod.fst (sh_si (sh_si (sh_si (sh_si (F.1 41 (8, 4) rfl rfl)))))) rfl (by decide) rfl rfl ⟨by decide, by decide⟩ (jC.of rfl k_X8_put rfl ?_)
            show jX m_X8_put 98 0 0 0 [(0, .ref 41), (1, .int 0), (2, .int 3), (3, .int a1)] [] _ 0 0 _
            refine x_iloadn (x := 0) rfl rfl ?_
            refine x_iflt (tgt := 38) rfl rfl (br_f (by decide) ?_)
            refine x_iloadn (x := 0) rfl rfl ?_
            refine x_aloadn (x := 41) rfl rfl ?_
            refine y_getI (v := 1) 8 3 rfl f_8_7 rfl (congrArg Prod.fst (sh_si (sh_si (sh_si (sh_si (F.1 41 (8, 4) rfl rfl)))))) (iv_si rfl (iv_si rfl (iv_si rfl iv_eq))) ?_
            refine x_icge (tgt := 38) rfl rfl (br_f (by decide) ?_)
            refine x_iloadn (x := 3) rfl rfl ?_
            refine x_iflt (tgt := 38) rfl rfl (br_f (by decide) ?_)
            refine x_iloadn (x := 3) rfl rfl ?_
            refine x_aloadn (x := 41) rfl rfl ?_
            refine y_getI (v := 4) 8 0 rfl f_8_19 rfl (congrArg Prod.fst (sh_si (sh_si (sh_si (sh_si (F.1 41 (8, 4) rfl rfl)))))) (iv_si rfl (iv_si rfl (iv_si rfl (iv_si rfl (F.2.2.1 5248 4 rfl rfl))))) ?_
            refine x_icge (tgt := 38) rfl rfl (br_f (by decide) ?_)
            refine x_aloadn (x := 41) rfl rfl ?_
            refine x_getR (b := 42) 8 2 rfl f_8_25 rfl (congrArg Prod.fst (sh_si (sh_si (sh_si (sh_si (F.1 41 (8, 4) rfl rfl)))))) (rv_si (rv_si (rv_si (rv_si (F.2.1 5250 42 rfl rfl))))) ?_
            refine x_iloadn (x := 0) rfl rfl ?_
            refine x_aloadn (x := 41) rfl rfl ?_
            refine y_getI (v := 4) 8 0 rfl f_8_19 rfl (congrArg Prod.fst (sh_si (sh_si (sh_si (sh_si (F.1 41 (8, 4) rfl rfl)))))) (iv_si rfl (iv_si rfl (iv_si rfl (iv_si rfl (F.2.2.1 5248 4 rfl rfl))))) ?_
            refine y_imul (v := 0) rfl (by decide) ?_
            refine x_iloadn (x := 3) rfl rfl ?_
            refine y_iadd (v := 3) rfl (by decide) ?_
            refine x_iloadn (x := a1) rfl rfl ?_
            refine y_iast (N := 80) 3 rfl (sh_si (sh_si (sh_si (sh_si (F.1 42 (100, 80) rfl rfl))))) rfl (jinb_of (by decide)) (by decide) ?_
            refine x_vret rfl rfl ?_
            show jX m_X8_add 99 0 0 59 [(7, .int 0), (0, .ref 41), (1, .int a4), (2, .int a2), (3, .int a3), (4, .int a1), (5, .int 0), (6, .int 0)] [] _ 0 0 _
            refine x_aloadn (x := 41) rfl rfl ?_
            refine x_iload (x := 0) rfl rfl ?_
            refine x_iconst (v := 4) rfl ki_4 ?_
            refine x_iload (x := 0) rfl rfl ?_
            refine x_inv (N := m_X8_put) (As := [.int 0, .int 4, .int 0]) (b := 41) (st := []) (d' := 98) (mc := 0) (ms := 0) (host := "") 8 rfl t_X8_put ⟨Or.inl q_8_29, i_X8_put.1, i_X8_put.2⟩ ⟨by decide, rfl⟩ (congrArg Prod.fst (sh_si (sh_si (sh_si (sh_si (sh_si (F.1 41 (8, 4) rfl rfl))))))) rfl (by decide) rfl rfl ⟨by decide, by decide⟩ (jC.of rfl k_X8_put rfl ?_)
            show jX m_X8_put 98 0 0 0 [(0, .ref 41), (1, .int 0), (2, .int 4), (3, .int 0)] [] _ 0 0 _
            refine x_iloadn (x := 0) rfl rfl ?_
            refine x_iflt (tgt := 38) rfl rfl (br_f (by decide) ?_)
            refine x_iloadn (x := 0) rfl rfl ?_
            refine x_aloadn (x := 41) rfl rfl ?_
            refine y_getI (v := 1) 8 3 rfl f_8_7 rfl (congrArg Prod.fst (sh_si (sh_si (sh_si (sh_si (sh_si (F.1 41 (8, 4) rfl rfl))))))) (iv_si rfl (iv_si rfl (iv_si rfl (iv_si rfl iv_eq)))) ?_
            refine x_icge (tgt := 38) rfl rfl (br_f (by decide) ?_)
            refine x_iloadn (x := 4) rfl rfl ?_
            refine x_iflt (tgt := 38) rfl rfl (br_f (by decide) ?_)
            refine x_iloadn (x := 4) rfl rfl ?_
            refine x_aloadn (x := 41) rfl rfl ?_
            refine y_getI (v := 4) 8 0 rfl f_8_19 rfl (congrArg Prod.fst (sh_si (sh_si (sh_si (sh_si (sh_si (F.1 41 (8, 4) rfl rfl))))))) (iv_si rfl (iv_si rfl (iv_si rfl (iv_si rfl (iv_si rfl (F.2.2.1 5248 4 rfl rfl)))))) ?_
            refine x_icge (tgt := 38) rfl rfl (br_t (by decide) ?_)
            refine x_vret rfl rfl ?_
            show jX m_X8_add 99 0 0 68 [(7, .int 0), (0, .ref 41), (1, .int a4), (2, .int a2), (3, .int a3), (4, .int a1), (5, .int 0), (6, .int 0)] [] _ 0 0 _
            refine x_aloadn (x := 41) rfl rfl ?_
            refine x_iload (x := 0) rfl rfl ?_
            refine x_iconst (v := 5) rfl ki_5 ?_
            refine x_iload (x := 0) rfl rfl ?_
            refine x_inv (N := m_X8_put) (As := [.int 0, .int 5, .int 0]) (b := 41) (st := []) (d' := 98) (mc := 0) (ms := 0) (host := "") 8 rfl t_X8_put ⟨Or.inl q_8_29, i_X8_put.1, i_X8_put.2⟩ ⟨by decide, rfl⟩ (congrArg Prod.fst (sh_si (sh_si (sh_si (sh_si (sh_si (F.1 41 (8, 4) rfl rfl))))))) rfl (by decide) rfl rfl ⟨by decide, by decide⟩ (jC.of rfl k_X8_put rfl ?_)
            show jX m_X8_put 98 0 0 0 [(0, .ref 41), (1, .int 0), (2, .int 5), (3, .int 0)] [] _ 0 0 _
            refine x_iloadn (x := 0) rfl rfl ?_
            refine x_iflt (tgt := 38) rfl rfl (br_f (by decide) ?_)
            refine x_iloadn (x := 0) rfl rfl ?_
            refine x_aloadn (x := 41) rfl rfl ?_
            refine y_getI (v := 1) 8 3 rfl f_8_7 rfl (congrArg Prod.fst (sh_si (sh_si (sh_si (sh_si (sh_si (F.1 41 (8, 4) rfl rfl))))))) (iv_si rfl (iv_si rfl (iv_si rfl (iv_si rfl iv_eq)))) ?_
            refine x_icge (tgt := 38) rfl rfl (br_f (by decide) ?_)
            refine x_iloadn (x := 5) rfl rfl ?_
            refine x_iflt (tgt := 38) rfl rfl (br_f (by decide) ?_)
            refine x_iloadn (x := 5) rfl rfl ?_
            refine x_aloadn (x := 41) rfl rfl ?_
            refine y_getI (v := 4) 8 0 rfl f_8_19 rfl (congrArg Prod.fst (sh_si (sh_si (sh_si (sh_si (sh_si (F.1 41 (8, 4) rfl rfl))))))) (iv_si rfl (iv_si rfl (iv_si rfl (iv_si rfl (iv_si rfl (F.2.2.1 5248 4 rfl rfl)))))) ?_
            refine x_icge (tgt := 38) rfl rfl (br_t (by decide) ?_)
            refine x_vret rfl rfl ?_
            show jX m_X8_add 99 0 0 77 [(7, .int 0), (0, .ref 41), (1, .int a4), (2, .int a2), (3, .int a3), (4, .int a1), (5, .int 0), (6, .int 0)] [] _ 0 0 _
            refine x_vret rfl rfl ?_
            show jX m_X11_torn 100 0 0 77 [(0, .ref 31), (1, .int a1), (2, .int a2), (3, .int a3), (4, .int a4)] [] _ 0 0 _
            refine x_aloadn (x := 31) rfl rfl ?_
            refine x_aloadn (x := 31) rfl rfl ?_
            refine x_getR (b := 32) 11 0 rfl f_11_10 rfl (congrArg Prod.fst (sh_si (sh_si (sh_si (sh_si (sh_si (F.1 31 (11, 13) rfl rfl))))))) (rv_si (rv_si (rv_si (rv_si (rv_si (F.2.1 3968 32 rfl rfl)))))) ?_
            refine x_getR (b := 41) 1 4 rfl f_11_312 rfl (congrArg Prod.fst (sh_si (sh_si (sh_si (sh_si (sh_si (F.1 32 (1, 20) rfl rfl))))))) (rv_si (rv_si (rv_si (rv_si (rv_si (F.2.1 4100 41 rfl rfl)))))) ?_
            refine y_getI (v := 1) 8 3 rfl f_11_142 rfl (congrArg Prod.fst (sh_si (sh_si (sh_si (sh_si (sh_si (F.1 41 (8, 4) rfl rfl))))))) (iv_si rfl (iv_si rfl (iv_si rfl (iv_si rfl iv_eq)))) ?_
            refine x_inv (N := m_X11_accept) (As := [.int 1]) (b := 31) (st := []) (d' := 99) (mc := 0) (ms := 0) (host := "") 11 rfl t_X11_accept ⟨Or.inl q_11_165, i_X11_accept.1, i_X11_accept.2⟩ ⟨by decide, rfl⟩ (congrArg Prod.fst (sh_si (sh_si (sh_si (sh_si (sh_si (F.1 31 (11, 13) rfl rfl))))))) rfl (by decide) rfl rfl ⟨by decide, by decide⟩ (jC.of rfl k_X11_accept rfl ?_)
            show jX m_X11_accept 99 0 0 0 [(0, .ref 31), (1, .int 1)] [] _ 0 0 _
            refine x_aloadn (x := 31) rfl rfl ?_
            refine x_iconst (v := 0) rfl ki_0 ?_
            refine x_putI 11 12 rfl f_11_94 rfl (jfin_no TX11 RX11 13 rfl rfl) (congrArg Prod.fst (sh_si (sh_si (sh_si (sh_si (sh_si (F.1 31 (11, 13) rfl rfl))))))) rfl ?_
            refine x_aloadn (x := 31) rfl rfl ?_
            refine x_getR (b := 32) 11 0 rfl f_11_10 rfl (congrArg Prod.fst (sh_si (sh_si (sh_si (sh_si (sh_si (sh_si (F.1 31 (11, 13) rfl rfl)))))))) (rv_si (rv_si (rv_si (rv_si (rv_si (rv_si (F.2.1 3968 32 rfl rfl))))))) ?_
            refine x_dup rfl rfl ?_
            refine y_getI (v := 1) 1 19 rfl f_11_528 rfl (congrArg Prod.fst (sh_si (sh_si (sh_si (sh_si (sh_si (sh_si (F.1 32 (1, 20) rfl rfl)))))))) (iv_si rfl (iv_si rfl (iv_si rfl (iv_si rfl (iv_si rfl (iv_si rfl (F.2.2.1 4115 1 rfl rfl))))))) ?_
            refine x_iconst (v := 1) rfl ki_1 ?_
            refine y_iadd (v := 2) rfl (by decide) ?_
            refine x_putI 1 19 rfl f_11_528 rfl (jfin_no TX1 RX1 20 rfl rfl) (congrArg Prod.fst (sh_si (sh_si (sh_si (sh_si (sh_si (sh_si (F.1 32 (1, 20) rfl rfl)))))))) rfl ?_
            refine x_iloadn (x := 1) rfl rfl ?_
            refine x_iret rfl rfl ?_
            show jX m_X11_torn 100 0 0 91 [(0, .ref 31), (1, .int a1), (2, .int a2), (3, .int a3), (4, .int a4)] [.int 1] _ 0 0 _
            refine x_iret rfl rfl ?_
            exact jqe (show sp_torn a1 a2 a3 a4 = 1 by unfold sp_torn; (repeat' split) <;> first | rfl | (exfalso; omega)) (hQ _ (jFb_si rfl (jFb_si rfl (jFb_si rfl (jFb_si rfl (jFb_si rfl (jFb_si rfl (jFb_si rfl FM))))))) (jOl_si rfl (jOl_si rfl (jOl_si rfl (jOl_si rfl (jOl_si rfl (jOl_si rfl (jOl_si rfl O))))))))
          ·
            refine x_aloadn (x := 31) rfl rfl ?_
            refine x_iconst (v := (-1)) rfl ki_m1 ?_
            refine x_inv (N := m_X11_refuse) (As := [.int (-1)]) (b := 31) (st := []) (d' := 99) (mc := 0) (ms := 0) (host := "") 11 rfl t_X11_refuse ⟨Or.inl q_11_206, i_X11_refuse.1, i_X11_refuse.2⟩ ⟨by decide, rfl⟩ (congrArg Prod.fst (F.1 31 (11, 13) rfl rfl)) rfl (by decide) rfl rfl ⟨by decide, by decide⟩ (jC.of rfl k_X11_refuse rfl ?_)
            show jX m_X11_refuse 99 0 0 0 [(0, .ref 31), (1, .int (-1))] [] _ 0 0 _
            refine x_aloadn (x := 31) rfl rfl ?_
            refine x_iloadn (x := (-1)) rfl rfl ?_
            refine x_putI 11 12 rfl f_11_94 rfl (jfin_no TX11 RX11 13 rfl rfl) (congrArg Prod.fst (F.1 31 (11, 13) rfl rfl)) rfl ?_
            refine x_iloadn (x := (-1)) rfl rfl ?_
            refine x_iret rfl rfl ?_
            show jX m_X11_torn 100 0 0 39 [(0, .ref 31), (1, .int a1), (2, .int a2), (3, .int a3), (4, .int a4)] [.int (-1)] _ 0 0 _
            refine x_iret rfl rfl ?_
            exact jqe (show sp_torn a1 a2 a3 a4 = (-1) by unfold sp_torn; (repeat' split) <;> first | rfl | (exfalso; omega)) (hQ _ (jFb_si rfl FM) (jOl_si rfl O))
set_option maxRecDepth 100000 in
set_option maxHeartbeats 40000000 in
theorem pm_torn (a1 a2 a3 a4 : Int32) {xs : Nat → Int32} {h : jH} {Q : Option Value → jH → Prop} (F : jFb 125 h) (O : jOl 7 xs h) (hQ : ∀ h', jOl 7 xs h' → Q (some (.int (sp_torn a1 a2 a3 a4))) h') : jC m_X12_torn 100 0 0 [.ref 125, .int a1, .int a2, .int a3, .int a4] h Q := by
  refine jC.of rfl k_X12_torn rfl ?_
  show jX m_X12_torn 100 0 0 0 [(0, .ref 125), (1, .int a1), (2, .int a2), (3, .int a3), (4, .int a4)] [] _ 0 0 _
  refine x_aloadn (x := 125) rfl rfl ?_
  refine x_iconst (v := 0) rfl ki_0 ?_
  refine x_putI 12 0 rfl f_12_180 rfl (jfin_no TX12 RX12 92 rfl rfl) (congrArg Prod.fst (F.1 125 (12, 92) rfl rfl)) rfl ?_
  refine x_iloadn (x := a1) rfl rfl ?_
  refine x_i2l rfl ?_
  refine x_lconst (v := 0) rfl kl_0 ?_
  refine x_ldc2 (v := 5) rfl z_12_269 ?_
  refine x_inst (N := m_X12_in) (As := [.long (a1.toInt64), .long 0, .long 5]) (st := []) (d' := 99) (mc := 0) (ms := 0) (host := "") rfl t_X12_in ⟨Or.inl q_12_188, s_X12_in⟩ rfl (by decide) rfl rfl ⟨by decide, by decide⟩ (c_X12_in (m := a1.toInt) (a := 0) (b := 5) (jt_l _) (by decide) (by decide) ?_)
  show jX m_X12_torn 100 0 0 14 [(0, .ref 125), (1, .int a1), (2, .int a2), (3, .int a3), (4, .int a4)] [.int (jp (0 ≤ a1.toInt ∧ a1.toInt ≤ 5))] _ 0 0 _
  refine x_ifeq (tgt := 43) rfl rfl (jpe ⟨fun c1 => ?_, fun c1 => ?_⟩)
  ·
    refine x_aloadn (x := 125) rfl rfl ?_
    refine x_iconst (v := (-1)) rfl ki_m1 ?_
    refine x_inv (N := m_X12_told) (As := [.int (-1)]) (b := 125) (st := []) (d' := 99) (mc := 0) (ms := 0) (host := "") 12 rfl t_X12_told ⟨Or.inl q_12_197, i_X12_told.1, i_X12_told.2⟩ ⟨by decide, rfl⟩ (congrArg Prod.fst (sh_si (F.1 125 (12, 92) rfl rfl))) rfl (by decide) rfl rfl ⟨by decide, by decide⟩ (jC.of rfl k_X12_told rfl ?_)
    show jX m_X12_told 99 0 0 0 [(0, .ref 125), (1, .int (-1))] [] _ 0 0 _
    refine x_aloadn (x := 125) rfl rfl ?_
    refine x_iloadn (x := (-1)) rfl rfl ?_
    refine x_ifge (tgt := 9) rfl rfl (br_f (by decide) ?_)
    refine x_iloadn (x := (-1)) rfl rfl ?_
    refine x_goto (tgt := 10) rfl rfl ?_
    refine x_putI 12 1 rfl f_12_183 rfl (jfin_no TX12 RX12 92 rfl rfl) (congrArg Prod.fst (sh_si (F.1 125 (12, 92) rfl rfl))) rfl ?_
    refine x_iloadn (x := (-1)) rfl rfl ?_
    refine x_iret rfl rfl ?_
    show jX m_X12_torn 100 0 0 48 [(0, .ref 125), (1, .int a1), (2, .int a2), (3, .int a3), (4, .int a4)] [.int (-1)] _ 0 0 _
    refine x_iret rfl rfl ?_
    exact jqe (show sp_torn a1 a2 a3 a4 = (-1) by unfold sp_torn; (repeat' split) <;> first | rfl | (exfalso; omega)) (hQ _ (jOl_si rfl (jOl_si rfl O)))
  ·
    refine x_iloadn (x := a3) rfl rfl ?_
    refine x_inst (N := m_X12_isDay) (As := [.int a3]) (st := []) (d' := 99) (mc := 0) (ms := 0) (host := "") rfl t_X12_isDay ⟨Or.inl q_12_273, s_X12_isDay⟩ rfl (by decide) rfl rfl ⟨by decide, by decide⟩ (c_X12_isDay (x := a3) ?_)
    show jX m_X12_torn 100 0 0 21 [(0, .ref 125), (1, .int a1), (2, .int a2), (3, .int a3), (4, .int a4)] [.int (jp (0 ≤ a3.toInt ∧ a3.toInt ≤ 146399))] _ 0 0 _
    refine x_ifeq (tgt := 43) rfl rfl (jpe ⟨fun c2 => ?_, fun c2 => ?_⟩)
    ·
      refine x_aloadn (x := 125) rfl rfl ?_
      refine x_iconst (v := (-1)) rfl ki_m1 ?_
      refine x_inv (N := m_X12_told) (As := [.int (-1)]) (b := 125) (st := []) (d' := 99) (mc := 0) (ms := 0) (host := "") 12 rfl t_X12_told ⟨Or.inl q_12_197, i_X12_told.1, i_X12_told.2⟩ ⟨by decide, rfl⟩ (congrArg Prod.fst (sh_si (F.1 125 (12, 92) rfl rfl))) rfl (by decide) rfl rfl ⟨by decide, by decide⟩ (jC.of rfl k_X12_told rfl ?_)
      show jX m_X12_told 99 0 0 0 [(0, .ref 125), (1, .int (-1))] [] _ 0 0 _
      refine x_aloadn (x := 125) rfl rfl ?_
      refine x_iloadn (x := (-1)) rfl rfl ?_
      refine x_ifge (tgt := 9) rfl rfl (br_f (by decide) ?_)
      refine x_iloadn (x := (-1)) rfl rfl ?_
      refine x_goto (tgt := 10) rfl rfl ?_
      refine x_putI 12 1 rfl f_12_183 rfl (jfin_no TX12 RX12 92 rfl rfl) (congrArg Prod.fst (sh_si (F.1 125 (12, 92) rfl rfl))) rfl ?_
      refine x_iloadn (x := (-1)) rfl rfl ?_
      refine x_iret rfl rfl ?_
      show jX m_X12_torn 100 0 0 48 [(0, .ref 125), (1, .int a1), (2, .int a2), (3, .int a3), (4, .int a4)] [.int (-1)] _ 0 0 _
      refine x_iret rfl rfl ?_
      exact jqe (show sp_torn a1 a2 a3 a4 = (-1) by unfold sp_torn; (repeat' split) <;> first | rfl | (exfalso; omega)) (hQ _ (jOl_si rfl (jOl_si rfl O)))
    ·
      refine x_iloadn (x := a2) rfl rfl ?_
      refine x_i2l rfl ?_
      refine x_lconst (v := 0) rfl kl_0 ?_
      refine x_iloadn (x := a3) rfl rfl ?_
      refine x_i2l rfl ?_
      refine x_inst (N := m_X12_in) (As := [.long (a2.toInt64), .long 0, .long (a3.toInt64)]) (st := []) (d' := 99) (mc := 0) (ms := 0) (host := "") rfl t_X12_in ⟨Or.inl q_12_188, s_X12_in⟩ rfl (by decide) rfl rfl ⟨by decide, by decide⟩ (c_X12_in (m := a2.toInt) (a := 0) (b := a3.toInt) (jt_l _) (by decide) (jt_l _) ?_)
      show jX m_X12_torn 100 0 0 32 [(0, .ref 125), (1, .int a1), (2, .int a2), (3, .int a3), (4, .int a4)] [.int (jp (0 ≤ a2.toInt ∧ a2.toInt ≤ a3.toInt))] _ 0 0 _
      refine x_ifeq (tgt := 43) rfl rfl (jpe ⟨fun c3 => ?_, fun c3 => ?_⟩)
      ·
        refine x_aloadn (x := 125) rfl rfl ?_
        refine x_iconst (v := (-1)) rfl ki_m1 ?_
        refine x_inv (N := m_X12_told) (As := [.int (-1)]) (b := 125) (st := []) (d' := 99) (mc := 0) (ms := 0) (host := "") 12 rfl t_X12_told ⟨Or.inl q_12_197, i_X12_told.1, i_X12_told.2⟩ ⟨by decide, rfl⟩ (congrArg Prod.fst (sh_si (F.1 125 (12, 92) rfl rfl))) rfl (by decide) rfl rfl ⟨by decide, by decide⟩ (jC.of rfl k_X12_told rfl ?_)
        show jX m_X12_told 99 0 0 0 [(0, .ref 125), (1, .int (-1))] [] _ 0 0 _
        refine x_aloadn (x := 125) rfl rfl ?_
        refine x_iloadn (x := (-1)) rfl rfl ?_
        refine x_ifge (tgt := 9) rfl rfl (br_f (by decide) ?_)
        refine x_iloadn (x := (-1)) rfl rfl ?_
        refine x_goto (tgt := 10) rfl rfl ?_
        refine x_putI 12 1 rfl f_12_183 rfl (jfin_no TX12 RX12 92 rfl rfl) (congrArg Prod.fst (sh_si (F.1 125 (12, 92) rfl rfl))) rfl ?_
        refine x_iloadn (x := (-1)) rfl rfl ?_
        refine x_iret rfl rfl ?_
        show jX m_X12_torn 100 0 0 48 [(0, .ref 125), (1, .int a1), (2, .int a2), (3, .int a3), (4, .int a4)] [.int (-1)] _ 0 0 _
        refine x_iret rfl rfl ?_
        exact jqe (show sp_torn a1 a2 a3 a4 = (-1) by unfold sp_torn; (repeat' split) <;> first | rfl | (exfalso; omega)) (hQ _ (jOl_si rfl (jOl_si rfl O)))
      ·
        refine x_iload (x := a4) rfl rfl ?_
        refine x_inst (N := m_X12_isDay) (As := [.int a4]) (st := []) (d' := 99) (mc := 0) (ms := 0) (host := "") rfl t_X12_isDay ⟨Or.inl q_12_273, s_X12_isDay⟩ rfl (by decide) rfl rfl ⟨by decide, by decide⟩ (c_X12_isDay (x := a4) ?_)
        show jX m_X12_torn 100 0 0 40 [(0, .ref 125), (1, .int a1), (2, .int a2), (3, .int a3), (4, .int a4)] [.int (jp (0 ≤ a4.toInt ∧ a4.toInt ≤ 146399))] _ 0 0 _
        refine x_ifne (tgt := 49) rfl rfl (jpn ⟨fun c4 => ?_, fun c4 => ?_⟩)
        ·
          refine x_aloadn (x := 125) rfl rfl ?_
          refine x_getR (b := 126) 12 2 rfl f_12_8 rfl (congrArg Prod.fst (sh_si (F.1 125 (12, 92) rfl rfl))) (rv_si (F.2.1 16002 126 rfl rfl)) ?_
          refine x_iconst (v := 3) rfl ki_3 ?_
          refine y_iald (v := 0) (N := 50660) 3 rfl (sh_si (F.1 126 (100, 50660) rfl rfl)) (jinb_of (by decide)) (by decide) (iv_si rfl (F.2.2.2.1 126 rfl rfl 3).1) ?_
          refine x_bipush (v := 20) rfl kb_20 ?_
          refine x_icne (tgt := 67) rfl rfl (bn_t (by decide) ?_)
          refine x_sipush (v := 18740) rfl ks_18740 ?_
          refine x_iconst (v := 4) rfl ki_4 ?_
          refine x_aloadn (x := 125) rfl rfl ?_
          refine x_getR (b := 126) 12 2 rfl f_12_8 rfl (congrArg Prod.fst (sh_si (F.1 125 (12, 92) rfl rfl))) (rv_si (F.2.1 16002 126 rfl rfl)) ?_
          refine x_iconst (v := 3) rfl ki_3 ?_
          refine y_iald (v := 0) (N := 50660) 3 rfl (sh_si (F.1 126 (100, 50660) rfl rfl)) (jinb_of (by decide)) (by decide) (iv_si rfl (F.2.2.2.1 126 rfl rfl 3).1) ?_
          refine y_imul (v := 0) rfl (by decide) ?_
          refine y_iadd (v := 18740) rfl (by decide) ?_
          refine x_istore (ls' := [(5, .int 18740), (0, .ref 125), (1, .int a1), (2, .int a2), (3, .int a3), (4, .int a4)]) rfl rfl rfl ?_
          refine x_aloadn (x := 125) rfl rfl ?_
          refine x_getR (b := 126) 12 2 rfl f_12_8 rfl (congrArg Prod.fst (sh_si (F.1 125 (12, 92) rfl rfl))) (rv_si (F.2.1 16002 126 rfl rfl)) ?_
          refine x_iload (x := 18740) rfl rfl ?_
          refine x_iloadn (x := a1) rfl rfl ?_
          refine y_iast (N := 50660) 18740 rfl (sh_si (F.1 126 (100, 50660) rfl rfl)) rfl (jinb_of (by decide)) (by decide) ?_
          refine x_aloadn (x := 125) rfl rfl ?_
          refine x_getR (b := 126) 12 2 rfl f_12_8 rfl (congrArg Prod.fst (sh_si (sh_si (F.1 125 (12, 92) rfl rfl)))) (rv_si (rv_si (F.2.1 16002 126 rfl rfl))) ?_
          refine x_iload (x := 18740) rfl rfl ?_
          refine x_iconst (v := 1) rfl ki_1 ?_
          refine y_iadd (v := 18741) rfl (by decide) ?_
          refine x_iloadn (x := a2) rfl rfl ?_
          refine y_iast (N := 50660) 18741 rfl (sh_si (sh_si (F.1 126 (100, 50660) rfl rfl))) rfl (jinb_of (by decide)) (by decide) ?_
          refine x_aloadn (x := 125) rfl rfl ?_
          refine x_getR (b := 126) 12 2 rfl f_12_8 rfl (congrArg Prod.fst (sh_si (sh_si (sh_si (F.1 125 (12, 92) rfl rfl))))) (rv_si (rv_si (rv_si (F.2.1 16002 126 rfl rfl)))) ?_
          refine x_iload (x := 18740) rfl rfl ?_
          refine x_iconst (v := 2) rfl ki_2 ?_
          refine y_iadd (v := 18742) rfl (by decide) ?_
          refine x_iloadn (x := a3) rfl rfl ?_
          refine y_iast (N := 50660) 18742 rfl (sh_si (sh_si (sh_si (F.1 126 (100, 50660) rfl rfl)))) rfl (jinb_of (by decide)) (by decide) ?_
          refine x_aloadn (x := 125) rfl rfl ?_
          refine x_getR (b := 126) 12 2 rfl f_12_8 rfl (congrArg Prod.fst (sh_si (sh_si (sh_si (sh_si (F.1 125 (12, 92) rfl rfl)))))) (rv_si (rv_si (rv_si (rv_si (F.2.1 16002 126 rfl rfl))))) ?_
          refine x_iload (x := 18740) rfl rfl ?_
          refine x_iconst (v := 3) rfl ki_3 ?_
          refine y_iadd (v := 18743) rfl (by decide) ?_
          refine x_iload (x := a4) rfl rfl ?_
          refine y_iast (N := 50660) 18743 rfl (sh_si (sh_si (sh_si (sh_si (F.1 126 (100, 50660) rfl rfl))))) rfl (jinb_of (by decide)) (by decide) ?_
          refine x_aloadn (x := 125) rfl rfl ?_
          refine x_getR (b := 126) 12 2 rfl f_12_8 rfl (congrArg Prod.fst (sh_si (sh_si (sh_si (sh_si (sh_si (F.1 125 (12, 92) rfl rfl))))))) (rv_si (rv_si (rv_si (rv_si (rv_si (F.2.1 16002 126 rfl rfl)))))) ?_
          refine x_iconst (v := 3) rfl ki_3 ?_
          refine x_dup2 rfl rfl rfl ?_
          refine y_iald (v := 0) (N := 50660) 3 rfl (sh_si (sh_si (sh_si (sh_si (sh_si (F.1 126 (100, 50660) rfl rfl)))))) (jinb_of (by decide)) (by decide) (iv_si rfl (iv_si rfl (iv_si rfl (iv_si rfl (iv_si rfl (F.2.2.2.1 126 rfl rfl 3).1))))) ?_
          refine x_iconst (v := 1) rfl ki_1 ?_
          refine y_iadd (v := 1) rfl (by decide) ?_
          refine y_iast (N := 50660) 3 rfl (sh_si (sh_si (sh_si (sh_si (sh_si (F.1 126 (100, 50660) rfl rfl)))))) rfl (jinb_of (by decide)) (by decide) ?_
          refine x_aloadn (x := 125) rfl rfl ?_
          refine x_aloadn (x := 125) rfl rfl ?_
          refine x_getR (b := 126) 12 2 rfl f_12_8 rfl (congrArg Prod.fst (sh_si (sh_si (sh_si (sh_si (sh_si (sh_si (F.1 125 (12, 92) rfl rfl)))))))) (rv_si (rv_si (rv_si (rv_si (rv_si (rv_si (F.2.1 16002 126 rfl rfl))))))) ?_
          refine x_iconst (v := 3) rfl ki_3 ?_
          refine y_iald (v := 1) (N := 50660) 3 rfl (sh_si (sh_si (sh_si (sh_si (sh_si (sh_si (F.1 126 (100, 50660) rfl rfl))))))) (jinb_of (by decide)) (by decide) iv_eq ?_
          refine x_inv (N := m_X12_told) (As := [.int 1]) (b := 125) (st := []) (d' := 99) (mc := 0) (ms := 0) (host := "") 12 rfl t_X12_told ⟨Or.inl q_12_197, i_X12_told.1, i_X12_told.2⟩ ⟨by decide, rfl⟩ (congrArg Prod.fst (sh_si (sh_si (sh_si (sh_si (sh_si (sh_si (F.1 125 (12, 92) rfl rfl)))))))) rfl (by decide) rfl rfl ⟨by decide, by decide⟩ (jC.of rfl k_X12_told rfl ?_)
          show jX m_X12_told 99 0 0 0 [(0, .ref 125), (1, .int 1)] [] _ 0 0 _
          refine x_aloadn (x := 125) rfl rfl ?_
          refine x_iloadn (x := 1) rfl rfl ?_
          refine x_ifge (tgt := 9) rfl rfl (br_t (by decide) ?_)
          refine x_iconst (v := 0) rfl ki_0 ?_
          refine x_putI 12 1 rfl f_12_183 rfl (jfin_no TX12 RX12 92 rfl rfl) (congrArg Prod.fst (sh_si (sh_si (sh_si (sh_si (sh_si (sh_si (F.1 125 (12, 92) rfl rfl)))))))) rfl ?_
          refine x_iloadn (x := 1) rfl rfl ?_
          refine x_iret rfl rfl ?_
          show jX m_X12_torn 100 0 0 140 [(5, .int 18740), (0, .ref 125), (1, .int a1), (2, .int a2), (3, .int a3), (4, .int a4)] [.int 1] _ 0 0 _
          refine x_iret rfl rfl ?_
          exact jqe (show sp_torn a1 a2 a3 a4 = 1 by unfold sp_torn; (repeat' split) <;> first | rfl | (exfalso; omega)) (hQ _ (jOl_si rfl (jOl_si rfl (jOl_si rfl (jOl_si rfl (jOl_si rfl (jOl_si rfl (jOl_si rfl O))))))))
        ·
          refine x_aloadn (x := 125) rfl rfl ?_
          refine x_iconst (v := (-1)) rfl ki_m1 ?_
          refine x_inv (N := m_X12_told) (As := [.int (-1)]) (b := 125) (st := []) (d' := 99) (mc := 0) (ms := 0) (host := "") 12 rfl t_X12_told ⟨Or.inl q_12_197, i_X12_told.1, i_X12_told.2⟩ ⟨by decide, rfl⟩ (congrArg Prod.fst (sh_si (F.1 125 (12, 92) rfl rfl))) rfl (by decide) rfl rfl ⟨by decide, by decide⟩ (jC.of rfl k_X12_told rfl ?_)
          show jX m_X12_told 99 0 0 0 [(0, .ref 125), (1, .int (-1))] [] _ 0 0 _
          refine x_aloadn (x := 125) rfl rfl ?_
          refine x_iloadn (x := (-1)) rfl rfl ?_
          refine x_ifge (tgt := 9) rfl rfl (br_f (by decide) ?_)
          refine x_iloadn (x := (-1)) rfl rfl ?_
          refine x_goto (tgt := 10) rfl rfl ?_
          refine x_putI 12 1 rfl f_12_183 rfl (jfin_no TX12 RX12 92 rfl rfl) (congrArg Prod.fst (sh_si (F.1 125 (12, 92) rfl rfl))) rfl ?_
          refine x_iloadn (x := (-1)) rfl rfl ?_
          refine x_iret rfl rfl ?_
          show jX m_X12_torn 100 0 0 48 [(0, .ref 125), (1, .int a1), (2, .int a2), (3, .int a3), (4, .int a4)] [.int (-1)] _ 0 0 _
          refine x_iret rfl rfl ?_
          exact jqe (show sp_torn a1 a2 a3 a4 = (-1) by unfold sp_torn; (repeat' split) <;> first | rfl | (exfalso; omega)) (hQ _ (jOl_si rfl (jOl_si rfl O)))
