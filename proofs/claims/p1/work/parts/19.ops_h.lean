def sp_found (a1 : Int32) : Int32 := (-3)
set_option maxRecDepth 100000 in
set_option maxHeartbeats 40000000 in
theorem px_found (a1 : Int32) {xs : Nat → Int32} {h : jH} {Q : Option Value → jH → Prop} (F : jFb 31 h) (O : jOl 7 xs h) (hQ : ∀ h', jFb 125 h' → jOl 7 xs h' → Q (some (.int (sp_found a1))) h') : jC m_X11_found 100 0 0 [.ref 31, .int a1] h Q := by
  have FM := jFb_up 125 rfl F
  refine jC.of rfl k_X11_found rfl ?_
  show jX m_X11_found 100 0 0 0 [(0, .ref 31), (1, .int a1)] [] _ 0 0 _
  refine x_iloadn (x := a1) rfl rfl ?_
  refine x_inst (N := m_X11_isYear) (As := [.int a1]) (st := []) (d' := 99) (mc := 0) (ms := 0) (host := "") rfl t_X11_isYear ⟨Or.inl q_11_433, s_X11_isYear⟩ rfl (by decide) rfl rfl ⟨by decide, by decide⟩ (c_X11_isYear (x := a1) ?_)
  show jX m_X11_found 100 0 0 4 [(0, .ref 31), (1, .int a1)] [.int (jp (0 ≤ a1.toInt ∧ a1.toInt ≤ 399))] _ 0 0 _
  refine x_ifeq (tgt := 23) rfl rfl (jpe ⟨fun c1 => ?_, fun c1 => ?_⟩)
  ·
    refine x_bipush (v := (-3)) rfl kb_m3 ?_
    refine x_iret rfl rfl ?_
    exact jqe (show sp_found a1 = (-3) by unfold sp_found; (repeat' split) <;> first | rfl | (exfalso; omega)) (hQ _ FM O)
  ·
    refine x_aloadn (x := 31) rfl rfl ?_
    refine x_getR (b := 32) 11 0 rfl f_11_10 rfl (congrArg Prod.fst (F.1 31 (11, 13) rfl rfl)) (F.2.1 3968 32 rfl rfl) ?_
    refine x_getR (b := 65) 1 16 rfl f_11_511 rfl (congrArg Prod.fst (F.1 32 (1, 20) rfl rfl)) (F.2.1 4112 65 rfl rfl) ?_
    refine x_iloadn (x := a1) rfl rfl ?_
    refine x_iconst (v := 4) rfl ki_4 ?_
    refine x_imul rfl ?_
    have c2 := jmulr (x := a1) (y := 4) (n := 4) (by decide) (by omega)
    refine y_lald (v := 0) (N := 1600) (a1 * 4).toNatClampNeg rfl (F.1 65 (101, 1600) rfl rfl) (vpi (by omega)) rfl (F.2.2.2.1 65 rfl rfl _).2 ?_
    refine x_lconst (v := 0) rfl kl_0 ?_
    refine y_lcmp (v := 0) rfl (by decide) ?_
    refine x_ifne (tgt := 26) rfl rfl (bn_f (by decide) ?_)
    refine x_bipush (v := (-3)) rfl kb_m3 ?_
    refine x_iret rfl rfl ?_
    exact jqe (show sp_found a1 = (-3) by unfold sp_found; (repeat' split) <;> first | rfl | (exfalso; omega)) (hQ _ FM O)
set_option maxRecDepth 100000 in
set_option maxHeartbeats 40000000 in
theorem pm_found (a1 : Int32) {xs : Nat → Int32} {h : jH} {Q : Option Value → jH → Prop} (F : jFb 125 h) (O : jOl 7 xs h) (hQ : ∀ h', jOl 7 xs h' → Q (some (.int (sp_found a1))) h') : jC m_X12_found 100 0 0 [.ref 125, .int a1] h Q := by
  refine jC.of rfl k_X12_found rfl ?_
  show jX m_X12_found 100 0 0 0 [(0, .ref 125), (1, .int a1)] [] _ 0 0 _
  refine x_aloadn (x := 125) rfl rfl ?_
  refine x_iconst (v := 0) rfl ki_0 ?_
  refine x_putI 12 0 rfl f_12_180 rfl (jfin_no TX12 RX12 92 rfl rfl) (congrArg Prod.fst (F.1 125 (12, 92) rfl rfl)) rfl ?_
  refine x_iloadn (x := a1) rfl rfl ?_
  refine x_inst (N := m_X12_isYear) (As := [.int a1]) (st := []) (d' := 99) (mc := 0) (ms := 0) (host := "") rfl t_X12_isYear ⟨Or.inl q_12_817, s_X12_isYear⟩ rfl (by decide) rfl rfl ⟨by decide, by decide⟩ (c_X12_isYear (x := a1) ?_)
  show jX m_X12_found 100 0 0 9 [(0, .ref 125), (1, .int a1)] [.int (jp (0 ≤ a1.toInt ∧ a1.toInt ≤ 399))] _ 0 0 _
  refine x_ifeq (tgt := 25) rfl rfl (jpe ⟨fun c1 => ?_, fun c1 => ?_⟩)
  ·
    refine x_bipush (v := (-3)) rfl kb_m3 ?_
    refine x_iret rfl rfl ?_
    exact jqe (show sp_found a1 = (-3) by unfold sp_found; (repeat' split) <;> first | rfl | (exfalso; omega)) (hQ _ (jOl_si rfl O))
  ·
    refine x_aloadn (x := 125) rfl rfl ?_
    refine x_getR (b := 129) 12 5 rfl f_12_22 rfl (congrArg Prod.fst (sh_si (F.1 125 (12, 92) rfl rfl))) (rv_si (F.2.1 16005 129 rfl rfl)) ?_
    refine x_iconst (v := 4) rfl ki_4 ?_
    refine x_iloadn (x := a1) rfl rfl ?_
    refine x_imul rfl ?_
    have c2 := jmull (x := 4) (y := a1) (n := 4) (by decide) (by omega)
    refine y_lald (v := 0) (N := 1600) (4 * a1).toNatClampNeg rfl (sh_si (F.1 129 (101, 1600) rfl rfl)) (vpi (by omega)) rfl (lv_si (F.2.2.2.1 129 rfl rfl _).2) ?_
    refine x_lconst (v := 0) rfl kl_0 ?_
    refine y_lcmp (v := 0) rfl (by decide) ?_
    refine x_ifne (tgt := 28) rfl rfl (bn_f (by decide) ?_)
    refine x_bipush (v := (-3)) rfl kb_m3 ?_
    refine x_iret rfl rfl ?_
    exact jqe (show sp_found a1 = (-3) by unfold sp_found; (repeat' split) <;> first | rfl | (exfalso; omega)) (hQ _ (jOl_si rfl O))
def sp_image (a1 : Int32) : Int32 := if (0 ≤ a1.toInt ∧ a1.toInt ≤ 3) then 0 else (-1)
def sp_back (a1 : Int32) : Int32 := if (0 ≤ a1.toInt ∧ a1.toInt ≤ 3) then (-2) else (-1)
set_option maxRecDepth 100000 in
set_option maxHeartbeats 40000000 in
theorem px_back (a1 : Int32) {xs : Nat → Int32} {h : jH} {Q : Option Value → jH → Prop} (F : jFb 31 h) (O : jOl 7 xs h) (hQ : ∀ h', jFb 125 h' → jOl 7 xs h' → Q (some (.int (sp_back a1))) h') : jC m_X11_back 100 0 0 [.ref 31, .int a1] h Q := by
  have FM := jFb_up 125 rfl F
  refine jC.of rfl k_X11_back rfl ?_
  show jX m_X11_back 100 0 0 0 [(0, .ref 31), (1, .int a1)] [] _ 0 0 _
  refine x_iloadn (x := a1) rfl rfl ?_
  refine x_iconst (v := 0) rfl ki_0 ?_
  refine x_iconst (v := 3) rfl ki_3 ?_
  refine x_inst (N := m_X11_isWithin) (As := [.int a1, .int 0, .int 3]) (st := []) (d' := 99) (mc := 0) (ms := 0) (host := "") rfl t_X11_isWithin ⟨Or.inl q_11_202, s_X11_isWithin⟩ rfl (by decide) rfl rfl ⟨by decide, by decide⟩ (c_X11_isWithin (m := a1.toInt) (i := 0) (j := 3) rfl (by decide) (by decide) ?_)
  show jX m_X11_back 100 0 0 6 [(0, .ref 31), (1, .int a1)] [.int (jp (0 ≤ a1.toInt ∧ a1.toInt ≤ 3))] _ 0 0 _
  refine x_ifne (tgt := 15) rfl rfl (jpn ⟨fun c1 => ?_, fun c1 => ?_⟩)
  ·
    refine x_aloadn (x := 31) rfl rfl ?_
    refine x_getR (b := 67) 11 1 rfl f_11_16 rfl (congrArg Prod.fst (F.1 31 (11, 13) rfl rfl)) (F.2.1 3969 67 rfl rfl) ?_
    refine x_iloadn (x := a1) rfl rfl ?_
    refine y_aaldN (N := 4) 104 a1.toNatClampNeg rfl (F.1 67 (104, 4) rfl rfl) (by decide) (vpi (by omega)) rfl (F.2.2.2.2.2 67 rfl rfl _) ?_
    refine x_astorenN (ls' := [(2, .null), (0, .ref 31), (1, .int a1)]) rfl rfl rfl ?_
    refine x_aloadnN rfl rfl ?_
    refine x_ifnonnullN rfl ?_
    refine x_aloadn (x := 31) rfl rfl ?_
    refine x_bipush (v := (-2)) rfl kb_m2 ?_
    refine x_inv (N := m_X11_refuse) (As := [.int (-2)]) (b := 31) (st := []) (d' := 99) (mc := 0) (ms := 0) (host := "") 11 rfl t_X11_refuse ⟨Or.inl q_11_206, i_X11_refuse.1, i_X11_refuse.2⟩ ⟨by decide, rfl⟩ (congrArg Prod.fst (F.1 31 (11, 13) rfl rfl)) rfl (by decide) rfl rfl ⟨by decide, by decide⟩ (jC.of rfl k_X11_refuse rfl ?_)
    show jX m_X11_refuse 99 0 0 0 [(0, .ref 31), (1, .int (-2))] [] _ 0 0 _
    refine x_aloadn (x := 31) rfl rfl ?_
    refine x_iloadn (x := (-2)) rfl rfl ?_
    refine x_putI 11 12 rfl f_11_94 rfl (jfin_no TX11 RX11 13 rfl rfl) (congrArg Prod.fst (F.1 31 (11, 13) rfl rfl)) rfl ?_
    refine x_iloadn (x := (-2)) rfl rfl ?_
    refine x_iret rfl rfl ?_
    show jX m_X11_back 100 0 0 32 [(2, .null), (0, .ref 31), (1, .int a1)] [.int (-2)] _ 0 0 _
    refine x_iret rfl rfl ?_
    exact jqe (show sp_back a1 = (-2) by unfold sp_back; (repeat' split) <;> first | rfl | (exfalso; omega)) (hQ _ (jFb_si rfl FM) (jOl_si rfl O))
  ·
    refine x_aloadn (x := 31) rfl rfl ?_
    refine x_iconst (v := (-1)) rfl ki_m1 ?_
    refine x_inv (N := m_X11_refuse) (As := [.int (-1)]) (b := 31) (st := []) (d' := 99) (mc := 0) (ms := 0) (host := "") 11 rfl t_X11_refuse ⟨Or.inl q_11_206, i_X11_refuse.1, i_X11_refuse.2⟩ ⟨by decide, rfl⟩ (congrArg Prod.fst (F.1 31 (11, 13) rfl rfl)) rfl (by decide) rfl rfl ⟨by decide, by decide⟩ (jC.of rfl k_X11_refuse rfl ?_)
    show jX m_X11_refuse 99 0 0 0 [(0, .ref 31), (1, .int (-1))] [] _ 0 0 _
    refine x_aloadn (x := 31) rfl rfl ?_
    refine x_iloadn (x := (-1)) rfl rfl ?_
    refine x_putI 11 12 rfl f_11_94 rfl (jfin_no TX11 RX11 13 rfl rfl) (congrArg Prod.fst (F.1 31 (11, 13) rfl rfl)) rfl ?_
    refine x_iloadn (x := (-1)) rfl rfl ?_
    refine x_iret rfl rfl ?_
    show jX m_X11_back 100 0 0 14 [(0, .ref 31), (1, .int a1)] [.int (-1)] _ 0 0 _
    refine x_iret rfl rfl ?_
    exact jqe (show sp_back a1 = (-1) by unfold sp_back; (repeat' split) <;> first | rfl | (exfalso; omega)) (hQ _ (jFb_si rfl FM) (jOl_si rfl O))
set_option maxRecDepth 100000 in
set_option maxHeartbeats 40000000 in
theorem pm_back (a1 : Int32) {xs : Nat → Int32} {h : jH} {Q : Option Value → jH → Prop} (F : jFb 125 h) (O : jOl 7 xs h) (hQ : ∀ h', jOl 7 xs h' → Q (some (.int (sp_back a1))) h') : jC m_X12_back 100 0 0 [.ref 125, .int a1] h Q := by
  refine jC.of rfl k_X12_back rfl ?_
  show jX m_X12_back 100 0 0 0 [(0, .ref 125), (1, .int a1)] [] _ 0 0 _
  refine x_aloadn (x := 125) rfl rfl ?_
  refine x_iconst (v := 0) rfl ki_0 ?_
  refine x_putI 12 0 rfl f_12_180 rfl (jfin_no TX12 RX12 92 rfl rfl) (congrArg Prod.fst (F.1 125 (12, 92) rfl rfl)) rfl ?_
  refine x_iloadn (x := a1) rfl rfl ?_
  refine x_i2l rfl ?_
  refine x_lconst (v := 0) rfl kl_0 ?_
  refine x_ldc2 (v := 3) rfl z_12_195 ?_
  refine x_inst (N := m_X12_in) (As := [.long (a1.toInt64), .long 0, .long 3]) (st := []) (d' := 99) (mc := 0) (ms := 0) (host := "") rfl t_X12_in ⟨Or.inl q_12_188, s_X12_in⟩ rfl (by decide) rfl rfl ⟨by decide, by decide⟩ (c_X12_in (m := a1.toInt) (a := 0) (b := 3) (jt_l _) (by decide) (by decide) ?_)
  show jX m_X12_back 100 0 0 14 [(0, .ref 125), (1, .int a1)] [.int (jp (0 ≤ a1.toInt ∧ a1.toInt ≤ 3))] _ 0 0 _
  refine x_ifne (tgt := 23) rfl rfl (jpn ⟨fun c1 => ?_, fun c1 => ?_⟩)
  ·
    refine x_aloadn (x := 125) rfl rfl ?_
    refine x_getR (b := 128) 12 4 rfl f_12_18 rfl (congrArg Prod.fst (sh_si (F.1 125 (12, 92) rfl rfl))) (rv_si (F.2.1 16004 128 rfl rfl)) ?_
    refine x_iloadn (x := a1) rfl rfl ?_
    refine y_zald (v := 0) (N := 4) a1.toNatClampNeg rfl (sh_si (F.1 128 (102, 4) rfl rfl)) (vpi (by omega)) rfl (iv_si rfl (F.2.2.2.1 128 rfl rfl _).1) ?_
    refine x_ifne (tgt := 39) rfl rfl (bn_f (by decide) ?_)
    refine x_aloadn (x := 125) rfl rfl ?_
    refine x_bipush (v := (-2)) rfl kb_m2 ?_
    refine x_inv (N := m_X12_told) (As := [.int (-2)]) (b := 125) (st := []) (d' := 99) (mc := 0) (ms := 0) (host := "") 12 rfl t_X12_told ⟨Or.inl q_12_197, i_X12_told.1, i_X12_told.2⟩ ⟨by decide, rfl⟩ (congrArg Prod.fst (sh_si (F.1 125 (12, 92) rfl rfl))) rfl (by decide) rfl rfl ⟨by decide, by decide⟩ (jC.of rfl k_X12_told rfl ?_)
    show jX m_X12_told 99 0 0 0 [(0, .ref 125), (1, .int (-2))] [] _ 0 0 _
    refine x_aloadn (x := 125) rfl rfl ?_
    refine x_iloadn (x := (-2)) rfl rfl ?_
    refine x_ifge (tgt := 9) rfl rfl (br_f (by decide) ?_)
    refine x_iloadn (x := (-2)) rfl rfl ?_
    refine x_goto (tgt := 10) rfl rfl ?_
    refine x_putI 12 1 rfl f_12_183 rfl (jfin_no TX12 RX12 92 rfl rfl) (congrArg Prod.fst (sh_si (F.1 125 (12, 92) rfl rfl))) rfl ?_
    refine x_iloadn (x := (-2)) rfl rfl ?_
    refine x_iret rfl rfl ?_
    show jX m_X12_back 100 0 0 38 [(0, .ref 125), (1, .int a1)] [.int (-2)] _ 0 0 _
    refine x_iret rfl rfl ?_
    exact jqe (show sp_back a1 = (-2) by unfold sp_back; (repeat' split) <;> first | rfl | (exfalso; omega)) (hQ _ (jOl_si rfl (jOl_si rfl O)))
  ·
    refine x_aloadn (x := 125) rfl rfl ?_
    refine x_iconst (v := (-1)) rfl ki_m1 ?_
    refine x_inv (N := m_X12_told) (As := [.int (-1)]) (b := 125) (st := []) (d' := 99) (mc := 0) (ms := 0) (host := "") 12 rfl t_X12_told ⟨Or.inl q_12_197, i_X12_told.1, i_X12_told.2⟩ ⟨by decide, rfl⟩ (congrArg Prod.fst (sh_si (F.1 125 (12, 92) rfl rfl))) rfl (by decide) rfl rfl ⟨by decide, by decide⟩ (jC.of rfl k_X12_told rfl ?_)
    show jX m_X12_told 99 0 0 0 [(0, .ref 125), (1, .int (-1))] [] _ 0 0 _
    refine x_aloadn (x := 125) rfl rfl ?_
    refine x_iloadn (x := (-1)) rfl rfl ?_
    refine x_ifge (tgt := 9) rfl rfl (br_f (by decide) ?_)
    refine x_iloadn (x := (-1)) rfl rfl ?_
    refine x_goto (tgt := 10) rfl rfl ?_
    refine x_putI 12 1 rfl f_12_183 rfl (jfin_no TX12 RX12 92 rfl rfl) (congrArg Prod.fst (sh_si (F.1 125 (12, 92) rfl rfl))) rfl ?_
    refine x_iloadn (x := (-1)) rfl rfl ?_
    refine x_iret rfl rfl ?_
    show jX m_X12_back 100 0 0 22 [(0, .ref 125), (1, .int a1)] [.int (-1)] _ 0 0 _
    refine x_iret rfl rfl ?_
    exact jqe (show sp_back a1 = (-1) by unfold sp_back; (repeat' split) <;> first | rfl | (exfalso; omega)) (hQ _ (jOl_si rfl (jOl_si rfl O)))
def sp_as (a1 a2 : Int32) : Int32 := if (0 ≤ a2.toInt ∧ a2.toInt ≤ 9) then (-2) else (-1)
set_option maxRecDepth 100000 in
set_option maxHeartbeats 40000000 in
theorem px_as (a1 a2 : Int32) {xs : Nat → Int32} {h : jH} {Q : Option Value → jH → Prop} (F : jFb 31 h) (O : jOl 7 xs h) (hQ : ∀ h', jFb 125 h' → jOl 7 xs h' → Q (some (.int (sp_as a1 a2))) h') : jC m_X11_as 100 0 0 [.ref 31, .int a1, .int a2] h Q := by
  have FM := jFb_up 125 rfl F
  refine jC.of rfl k_X11_as rfl ?_
  show jX m_X11_as 100 0 0 0 [(0, .ref 31), (1, .int a1), (2, .int a2)] [] _ 0 0 _
  refine x_iloadn (x := a2) rfl rfl ?_
  refine x_iflt (tgt := 10) rfl rfl (ti_lt (show (a2 : Int32).toInt = a2.toInt from rfl) (show (0 : Int32).toInt = 0 by decide) ⟨fun c1 => ?_, fun c1 => ?_⟩)
  ·
    refine x_iconst (v := (-1)) rfl ki_m1 ?_
    refine x_iret rfl rfl ?_
    exact jqe (show sp_as a1 a2 = (-1) by unfold sp_as; (repeat' split) <;> first | rfl | (exfalso; omega)) (hQ _ FM O)
  ·
    refine x_iloadn (x := a2) rfl rfl ?_
    refine x_bipush (v := 9) rfl kb_9 ?_
    refine x_icle (tgt := 12) rfl rfl (ti_le (show (a2 : Int32).toInt = a2.toInt from rfl) (show (9 : Int32).toInt = 9 by decide) ⟨fun c2 => ?_, fun c2 => ?_⟩)
    ·
      refine x_iloadn (x := a1) rfl rfl ?_
      refine x_iflt (tgt := 30) rfl rfl (ti_lt (show (a1 : Int32).toInt = a1.toInt from rfl) (show (0 : Int32).toInt = 0 by decide) ⟨fun c3 => ?_, fun c3 => ?_⟩)
      ·
        refine x_bipush (v := (-2)) rfl kb_m2 ?_
        refine x_iret rfl rfl ?_
        exact jqe (show sp_as a1 a2 = (-2) by unfold sp_as; (repeat' split) <;> first | rfl | (exfalso; omega)) (hQ _ FM O)
      ·
        refine x_iloadn (x := a1) rfl rfl ?_
        refine x_aloadn (x := 31) rfl rfl ?_
        refine x_getR (b := 32) 11 0 rfl f_11_10 rfl (congrArg Prod.fst (F.1 31 (11, 13) rfl rfl)) (F.2.1 3968 32 rfl rfl) ?_
        refine x_getR (b := 63) 1 15 rfl f_11_159 rfl (congrArg Prod.fst (F.1 32 (1, 20) rfl rfl)) (F.2.1 4111 63 rfl rfl) ?_
        refine y_getI (v := 0) 8 3 rfl f_11_142 rfl (congrArg Prod.fst (F.1 63 (8, 4) rfl rfl)) (F.2.2.1 8067 0 rfl rfl) ?_
        refine x_iclt (tgt := 33) rfl rfl (ti_lt (show (a1 : Int32).toInt = a1.toInt from rfl) (show (0 : Int32).toInt = 0 by decide) (br_f c3 ?_))
        refine x_bipush (v := (-2)) rfl kb_m2 ?_
        refine x_iret rfl rfl ?_
        exact jqe (show sp_as a1 a2 = (-2) by unfold sp_as; (repeat' split) <;> first | rfl | (exfalso; omega)) (hQ _ FM O)
    ·
      refine x_iconst (v := (-1)) rfl ki_m1 ?_
      refine x_iret rfl rfl ?_
      exact jqe (show sp_as a1 a2 = (-1) by unfold sp_as; (repeat' split) <;> first | rfl | (exfalso; omega)) (hQ _ FM O)
set_option maxRecDepth 100000 in
set_option maxHeartbeats 40000000 in
theorem pm_as (a1 a2 : Int32) {xs : Nat → Int32} {h : jH} {Q : Option Value → jH → Prop} (F : jFb 125 h) (O : jOl 7 xs h) (hQ : ∀ h', jOl 7 xs h' → Q (some (.int (sp_as a1 a2))) h') : jC m_X12_as 100 0 0 [.ref 125, .int a1, .int a2] h Q := by
  refine jC.of rfl k_X12_as rfl ?_
  show jX m_X12_as 100 0 0 0 [(0, .ref 125), (1, .int a1), (2, .int a2)] [] _ 0 0 _
  refine x_aloadn (x := 125) rfl rfl ?_
  refine x_iconst (v := 0) rfl ki_0 ?_
  refine x_putI 12 0 rfl f_12_180 rfl (jfin_no TX12 RX12 92 rfl rfl) (congrArg Prod.fst (F.1 125 (12, 92) rfl rfl)) rfl ?_
  refine x_iloadn (x := a2) rfl rfl ?_
  refine x_i2l rfl ?_
  refine x_lconst (v := 0) rfl kl_0 ?_
  refine x_ldc2 (v := 9) rfl z_12_505 ?_
  refine x_inst (N := m_X12_in) (As := [.long (a2.toInt64), .long 0, .long 9]) (st := []) (d' := 99) (mc := 0) (ms := 0) (host := "") rfl t_X12_in ⟨Or.inl q_12_188, s_X12_in⟩ rfl (by decide) rfl rfl ⟨by decide, by decide⟩ (c_X12_in (m := a2.toInt) (a := 0) (b := 9) (jt_l _) (by decide) (by decide) ?_)
  show jX m_X12_as 100 0 0 14 [(0, .ref 125), (1, .int a1), (2, .int a2)] [.int (jp (0 ≤ a2.toInt ∧ a2.toInt ≤ 9))] _ 0 0 _
  refine x_ifne (tgt := 19) rfl rfl (jpn ⟨fun c1 => ?_, fun c1 => ?_⟩)
  ·
    refine x_iloadn (x := a1) rfl rfl ?_
    refine x_i2l rfl ?_
    refine x_lconst (v := 0) rfl kl_0 ?_
    refine x_aloadn (x := 125) rfl rfl ?_
    refine x_getR (b := 126) 12 2 rfl f_12_8 rfl (congrArg Prod.fst (sh_si (F.1 125 (12, 92) rfl rfl))) (rv_si (F.2.1 16002 126 rfl rfl)) ?_
    refine x_bipush (v := 16) rfl kb_16 ?_
    refine y_iald (v := 0) (N := 50660) 16 rfl (sh_si (F.1 126 (100, 50660) rfl rfl)) (jinb_of (by decide)) (by decide) (iv_si rfl (F.2.2.2.1 126 rfl rfl 16).1) ?_
    refine y_i2l (v := 0) rfl (by decide) ?_
    refine x_lconst (v := 1) rfl kl_1 ?_
    refine y_lsub (v := (-1)) rfl (by decide) ?_
    refine x_inst (N := m_X12_in) (As := [.long (a1.toInt64), .long 0, .long (-1)]) (st := []) (d' := 99) (mc := 0) (ms := 0) (host := "") rfl t_X12_in ⟨Or.inl q_12_188, s_X12_in⟩ rfl (by decide) rfl rfl ⟨by decide, by decide⟩ (c_X12_in (m := a1.toInt) (a := 0) (b := (-1)) (jt_l _) (by decide) (by decide) ?_)
    show jX m_X12_as 100 0 0 35 [(0, .ref 125), (1, .int a1), (2, .int a2)] [.int (jp (0 ≤ a1.toInt ∧ a1.toInt ≤ (-1)))] _ 0 0 _
    refine x_ifne (tgt := 41) rfl rfl (jpn ⟨fun c2 => ?_, fun c2 => ?_⟩)
    ·
      exfalso
      omega
    ·
      refine x_bipush (v := (-2)) rfl kb_m2 ?_
      refine x_iret rfl rfl ?_
      exact jqe (show sp_as a1 a2 = (-2) by unfold sp_as; (repeat' split) <;> first | rfl | (exfalso; omega)) (hQ _ (jOl_si rfl O))
  ·
    refine x_iconst (v := (-1)) rfl ki_m1 ?_
    refine x_iret rfl rfl ?_
    exact jqe (show sp_as a1 a2 = (-1) by unfold sp_as; (repeat' split) <;> first | rfl | (exfalso; omega)) (hQ _ (jOl_si rfl O))
def sp_count (a1 : Int32) : Int32 := if (0 ≤ a1.toInt ∧ a1.toInt ≤ 11) then 0 else (-1)
set_option maxRecDepth 100000 in
set_option maxHeartbeats 40000000 in
theorem px_count (a1 : Int32) {xs : Nat → Int32} {h : jH} {Q : Option Value → jH → Prop} (F : jFb 31 h) (O : jOl 7 xs h) (hQ : ∀ h', jFb 125 h' → jOl 7 xs h' → Q (some (.int (sp_count a1))) h') : jC m_X11_count 100 0 0 [.ref 31, .int a1] h Q := by
  have FM := jFb_up 125 rfl F
  refine jC.of rfl k_X11_count rfl ?_
  show jX m_X11_count 100 0 0 0 [(0, .ref 31), (1, .int a1)] [] _ 0 0 _
  refine x_iloadn (x := a1) rfl rfl ?_
  by_cases c1 : a1.toInt = 0
  ·
    refine x_tableIn (tgt := 64) 0 rfl c1 (by decide) (by decide) rfl rfl ?_
    refine x_aloadn (x := 31) rfl rfl ?_
    refine x_getR (b := 32) 11 0 rfl f_11_10 rfl (congrArg Prod.fst (F.1 31 (11, 13) rfl rfl)) (F.2.1 3968 32 rfl rfl) ?_
    refine x_getR (b := 33) 1 0 rfl f_11_126 rfl (congrArg Prod.fst (F.1 32 (1, 20) rfl rfl)) (F.2.1 4096 33 rfl rfl) ?_
    refine y_getI (v := 0) 8 3 rfl f_11_142 rfl (congrArg Prod.fst (F.1 33 (8, 4) rfl rfl)) (F.2.2.1 4227 0 rfl rfl) ?_
    refine x_iret rfl rfl ?_
    exact jqe (show sp_count a1 = 0 by unfold sp_count; (repeat' split) <;> first | rfl | (exfalso; omega)) (hQ _ FM O)
  by_cases c2 : a1.toInt = 1
  ·
    refine x_tableIn (tgt := 75) 1 rfl c2 (by decide) (by decide) rfl rfl ?_
    refine x_aloadn (x := 31) rfl rfl ?_
    refine x_getR (b := 32) 11 0 rfl f_11_10 rfl (congrArg Prod.fst (F.1 31 (11, 13) rfl rfl)) (F.2.1 3968 32 rfl rfl) ?_
    refine y_getI (v := 0) 1 18 rfl f_11_325 rfl (congrArg Prod.fst (F.1 32 (1, 20) rfl rfl)) (F.2.2.1 4114 0 rfl rfl) ?_
    refine x_iret rfl rfl ?_
    exact jqe (show sp_count a1 = 0 by unfold sp_count; (repeat' split) <;> first | rfl | (exfalso; omega)) (hQ _ FM O)
  by_cases c3 : a1.toInt = 2
  ·
    refine x_tableIn (tgt := 83) 2 rfl c3 (by decide) (by decide) rfl rfl ?_
    refine x_aloadn (x := 31) rfl rfl ?_
    refine x_getR (b := 32) 11 0 rfl f_11_10 rfl (congrArg Prod.fst (F.1 31 (11, 13) rfl rfl)) (F.2.1 3968 32 rfl rfl) ?_
    refine x_getR (b := 43) 1 5 rfl f_11_378 rfl (congrArg Prod.fst (F.1 32 (1, 20) rfl rfl)) (F.2.1 4101 43 rfl rfl) ?_
    refine y_getI (v := 0) 8 3 rfl f_11_142 rfl (congrArg Prod.fst (F.1 43 (8, 4) rfl rfl)) (F.2.2.1 5507 0 rfl rfl) ?_
    refine x_iret rfl rfl ?_
    exact jqe (show sp_count a1 = 0 by unfold sp_count; (repeat' split) <;> first | rfl | (exfalso; omega)) (hQ _ FM O)
  by_cases c4 : a1.toInt = 3
  ·
    refine x_tableIn (tgt := 94) 3 rfl c4 (by decide) (by decide) rfl rfl ?_
    refine x_aloadn (x := 31) rfl rfl ?_
    refine x_getR (b := 32) 11 0 rfl f_11_10 rfl (congrArg Prod.fst (F.1 31 (11, 13) rfl rfl)) (F.2.1 3968 32 rfl rfl) ?_
    refine x_getR (b := 49) 1 8 rfl f_11_408 rfl (congrArg Prod.fst (F.1 32 (1, 20) rfl rfl)) (F.2.1 4104 49 rfl rfl) ?_
    refine y_getI (v := 0) 8 3 rfl f_11_142 rfl (congrArg Prod.fst (F.1 49 (8, 4) rfl rfl)) (F.2.2.1 6275 0 rfl rfl) ?_
    refine x_iret rfl rfl ?_
    exact jqe (show sp_count a1 = 0 by unfold sp_count; (repeat' split) <;> first | rfl | (exfalso; omega)) (hQ _ FM O)
  by_cases c5 : a1.toInt = 4
  ·
    refine x_tableIn (tgt := 105) 4 rfl c5 (by decide) (by decide) rfl rfl ?_
    refine x_aloadn (x := 31) rfl rfl ?_
    refine x_getR (b := 32) 11 0 rfl f_11_10 rfl (congrArg Prod.fst (F.1 31 (11, 13) rfl rfl)) (F.2.1 3968 32 rfl rfl) ?_
    refine x_getR (b := 63) 1 15 rfl f_11_159 rfl (congrArg Prod.fst (F.1 32 (1, 20) rfl rfl)) (F.2.1 4111 63 rfl rfl) ?_
    refine y_getI (v := 0) 8 3 rfl f_11_142 rfl (congrArg Prod.fst (F.1 63 (8, 4) rfl rfl)) (F.2.2.1 8067 0 rfl rfl) ?_
    refine x_iret rfl rfl ?_
    exact jqe (show sp_count a1 = 0 by unfold sp_count; (repeat' split) <;> first | rfl | (exfalso; omega)) (hQ _ FM O)
  by_cases c6 : a1.toInt = 5
  ·
    refine x_tableIn (tgt := 116) 5 rfl c6 (by decide) (by decide) rfl rfl ?_
    refine x_aloadn (x := 31) rfl rfl ?_
    refine x_getR (b := 32) 11 0 rfl f_11_10 rfl (congrArg Prod.fst (F.1 31 (11, 13) rfl rfl)) (F.2.1 3968 32 rfl rfl) ?_
    refine x_getR (b := 53) 1 10 rfl f_11_437 rfl (congrArg Prod.fst (F.1 32 (1, 20) rfl rfl)) (F.2.1 4106 53 rfl rfl) ?_
    refine y_getI (v := 0) 8 3 rfl f_11_142 rfl (congrArg Prod.fst (F.1 53 (8, 4) rfl rfl)) (F.2.2.1 6787 0 rfl rfl) ?_
    refine x_iret rfl rfl ?_
    exact jqe (show sp_count a1 = 0 by unfold sp_count; (repeat' split) <;> first | rfl | (exfalso; omega)) (hQ _ FM O)
  by_cases c7 : a1.toInt = 6
  ·
    refine x_tableIn (tgt := 127) 6 rfl c7 (by decide) (by decide) rfl rfl ?_
    refine x_aloadn (x := 31) rfl rfl ?_
    refine x_getR (b := 32) 11 0 rfl f_11_10 rfl (congrArg Prod.fst (F.1 31 (11, 13) rfl rfl)) (F.2.1 3968 32 rfl rfl) ?_
    refine x_getR (b := 39) 1 3 rfl f_11_237 rfl (congrArg Prod.fst (F.1 32 (1, 20) rfl rfl)) (F.2.1 4099 39 rfl rfl) ?_
    refine y_getI (v := 0) 8 3 rfl f_11_142 rfl (congrArg Prod.fst (F.1 39 (8, 4) rfl rfl)) (F.2.2.1 4995 0 rfl rfl) ?_
    refine x_iret rfl rfl ?_
    exact jqe (show sp_count a1 = 0 by unfold sp_count; (repeat' split) <;> first | rfl | (exfalso; omega)) (hQ _ FM O)
  by_cases c8 : a1.toInt = 7
  ·
    refine x_tableIn (tgt := 138) 7 rfl c8 (by decide) (by decide) rfl rfl ?_
    refine x_aloadn (x := 31) rfl rfl ?_
    refine x_getR (b := 87) 11 5 rfl f_11_50 rfl (congrArg Prod.fst (F.1 31 (11, 13) rfl rfl)) (F.2.1 3973 87 rfl rfl) ?_
    refine y_getI (v := 0) 3 3 rfl f_11_273 rfl (congrArg Prod.fst (F.1 87 (3, 14) rfl rfl)) (F.2.2.1 11139 0 rfl rfl) ?_
    refine x_iret rfl rfl ?_
    exact jqe (show sp_count a1 = 0 by unfold sp_count; (repeat' split) <;> first | rfl | (exfalso; omega)) (hQ _ FM O)
  by_cases c9 : a1.toInt = 8
  ·
    refine x_tableIn (tgt := 146) 8 rfl c9 (by decide) (by decide) rfl rfl ?_
    refine x_aloadn (x := 31) rfl rfl ?_
    refine x_getR (b := 68) 11 2 rfl f_11_23 rfl (congrArg Prod.fst (F.1 31 (11, 13) rfl rfl)) (F.2.1 3970 68 rfl rfl) ?_
    refine y_getI (v := 0) 9 1 rfl f_11_106 rfl (congrArg Prod.fst (F.1 68 (9, 6) rfl rfl)) (F.2.2.1 8705 0 rfl rfl) ?_
    refine x_iret rfl rfl ?_
    exact jqe (show sp_count a1 = 0 by unfold sp_count; (repeat' split) <;> first | rfl | (exfalso; omega)) (hQ _ FM O)
  by_cases c10 : a1.toInt = 9
  ·
    refine x_tableIn (tgt := 154) 9 rfl c10 (by decide) (by decide) rfl rfl ?_
    refine x_aloadn (x := 31) rfl rfl ?_
    refine x_getR (b := 32) 11 0 rfl f_11_10 rfl (congrArg Prod.fst (F.1 31 (11, 13) rfl rfl)) (F.2.1 3968 32 rfl rfl) ?_
    refine x_getR (b := 45) 1 6 rfl f_11_402 rfl (congrArg Prod.fst (F.1 32 (1, 20) rfl rfl)) (F.2.1 4102 45 rfl rfl) ?_
    refine y_getI (v := 0) 8 3 rfl f_11_142 rfl (congrArg Prod.fst (F.1 45 (8, 4) rfl rfl)) (F.2.2.1 5763 0 rfl rfl) ?_
    refine x_iret rfl rfl ?_
    exact jqe (show sp_count a1 = 0 by unfold sp_count; (repeat' split) <;> first | rfl | (exfalso; omega)) (hQ _ FM O)
  by_cases c11 : a1.toInt = 10
  ·
    refine x_tableIn (tgt := 165) 10 rfl c11 (by decide) (by decide) rfl rfl ?_
    refine x_aloadn (x := 31) rfl rfl ?_
    refine x_getR (b := 32) 11 0 rfl f_11_10 rfl (congrArg Prod.fst (F.1 31 (11, 13) rfl rfl)) (F.2.1 3968 32 rfl rfl) ?_
    refine x_getR (b := 55) 1 11 rfl f_11_452 rfl (congrArg Prod.fst (F.1 32 (1, 20) rfl rfl)) (F.2.1 4107 55 rfl rfl) ?_
    refine y_getI (v := 0) 8 3 rfl f_11_142 rfl (congrArg Prod.fst (F.1 55 (8, 4) rfl rfl)) (F.2.2.1 7043 0 rfl rfl) ?_
    refine x_iret rfl rfl ?_
    exact jqe (show sp_count a1 = 0 by unfold sp_count; (repeat' split) <;> first | rfl | (exfalso; omega)) (hQ _ FM O)
  by_cases c12 : a1.toInt = 11
  ·
    refine x_tableIn (tgt := 176) 11 rfl c12 (by decide) (by decide) rfl rfl ?_
    refine x_aloadn (x := 31) rfl rfl ?_
    refine x_getR (b := 32) 11 0 rfl f_11_10 rfl (congrArg Prod.fst (F.1 31 (11, 13) rfl rfl)) (F.2.1 3968 32 rfl rfl) ?_
    refine x_getR (b := 57) 1 12 rfl f_11_473 rfl (congrArg Prod.fst (F.1 32 (1, 20) rfl rfl)) (F.2.1 4108 57 rfl rfl) ?_
    refine y_getI (v := 0) 8 3 rfl f_11_142 rfl (congrArg Prod.fst (F.1 57 (8, 4) rfl rfl)) (F.2.2.1 7299 0 rfl rfl) ?_
    refine x_iret rfl rfl ?_
    exact jqe (show sp_count a1 = 0 by unfold sp_count; (repeat' split) <;> first | rfl | (exfalso; omega)) (hQ _ FM O)
  refine x_tableOut (tgt := 187) rfl (by omega) rfl ?_
  refine x_iconst (v := (-1)) rfl ki_m1 ?_
  refine x_iret rfl rfl ?_
  exact jqe (show sp_count a1 = (-1) by unfold sp_count; (repeat' split) <;> first | rfl | (exfalso; omega)) (hQ _ FM O)
set_option maxRecDepth 100000 in
set_option maxHeartbeats 40000000 in
theorem pm_count (a1 : Int32) {xs : Nat → Int32} {h : jH} {Q : Option Value → jH → Prop} (F : jFb 125 h) (O : jOl 7 xs h) (hQ : ∀ h', jOl 7 xs h' → Q (some (.int (sp_count a1))) h') : jC m_X12_count 100 0 0 [.ref 125, .int a1] h Q := by
  refine jC.of rfl k_X12_count rfl ?_
  show jX m_X12_count 100 0 0 0 [(0, .ref 125), (1, .int a1)] [] _ 0 0 _
  refine x_aloadn (x := 125) rfl rfl ?_
  refine x_iconst (v := 0) rfl ki_0 ?_
  refine x_putI 12 0 rfl f_12_180 rfl (jfin_no TX12 RX12 92 rfl rfl) (congrArg Prod.fst (F.1 125 (12, 92) rfl rfl)) rfl ?_
  refine x_iloadn (x := a1) rfl rfl ?_
  by_cases c1 : a1.toInt = 0
  ·
    refine x_tableIn (tgt := 68) 0 rfl c1 (by decide) (by decide) rfl rfl ?_
    refine x_aloadn (x := 125) rfl rfl ?_
    refine x_getR (b := 126) 12 2 rfl f_12_8 rfl (congrArg Prod.fst (sh_si (F.1 125 (12, 92) rfl rfl))) (rv_si (F.2.1 16002 126 rfl rfl)) ?_
    refine x_iconst (v := 0) rfl ki_0 ?_
    refine y_iald (v := 0) (N := 50660) 0 rfl (sh_si (F.1 126 (100, 50660) rfl rfl)) (jinb_of (by decide)) (by decide) (iv_si rfl (F.2.2.2.1 126 rfl rfl 0).1) ?_
    refine x_iret rfl rfl ?_
    exact jqe (show sp_count a1 = 0 by unfold sp_count; (repeat' split) <;> first | rfl | (exfalso; omega)) (hQ _ (jOl_si rfl O))
  by_cases c2 : a1.toInt = 1
  ·
    refine x_tableIn (tgt := 75) 1 rfl c2 (by decide) (by decide) rfl rfl ?_
    refine x_aloadn (x := 125) rfl rfl ?_
    refine x_getR (b := 126) 12 2 rfl f_12_8 rfl (congrArg Prod.fst (sh_si (F.1 125 (12, 92) rfl rfl))) (rv_si (F.2.1 16002 126 rfl rfl)) ?_
    refine x_iconst (v := 4) rfl ki_4 ?_
    refine y_iald (v := 0) (N := 50660) 4 rfl (sh_si (F.1 126 (100, 50660) rfl rfl)) (jinb_of (by decide)) (by decide) (iv_si rfl (F.2.2.2.1 126 rfl rfl 4).1) ?_
    refine x_iret rfl rfl ?_
    exact jqe (show sp_count a1 = 0 by unfold sp_count; (repeat' split) <;> first | rfl | (exfalso; omega)) (hQ _ (jOl_si rfl O))
  by_cases c3 : a1.toInt = 2
  ·
    refine x_tableIn (tgt := 82) 2 rfl c3 (by decide) (by decide) rfl rfl ?_
    refine x_aloadn (x := 125) rfl rfl ?_
    refine x_getR (b := 126) 12 2 rfl f_12_8 rfl (congrArg Prod.fst (sh_si (F.1 125 (12, 92) rfl rfl))) (rv_si (F.2.1 16002 126 rfl rfl)) ?_
    refine x_iconst (v := 5) rfl ki_5 ?_
    refine y_iald (v := 0) (N := 50660) 5 rfl (sh_si (F.1 126 (100, 50660) rfl rfl)) (jinb_of (by decide)) (by decide) (iv_si rfl (F.2.2.2.1 126 rfl rfl 5).1) ?_
    refine x_iret rfl rfl ?_
    exact jqe (show sp_count a1 = 0 by unfold sp_count; (repeat' split) <;> first | rfl | (exfalso; omega)) (hQ _ (jOl_si rfl O))
  by_cases c4 : a1.toInt = 3
  ·
    refine x_tableIn (tgt := 89) 3 rfl c4 (by decide) (by decide) rfl rfl ?_
    refine x_aloadn (x := 125) rfl rfl ?_
    refine x_getR (b := 126) 12 2 rfl f_12_8 rfl (congrArg Prod.fst (sh_si (F.1 125 (12, 92) rfl rfl))) (rv_si (F.2.1 16002 126 rfl rfl)) ?_
    refine x_bipush (v := 7) rfl kb_7 ?_
    refine y_iald (v := 0) (N := 50660) 7 rfl (sh_si (F.1 126 (100, 50660) rfl rfl)) (jinb_of (by decide)) (by decide) (iv_si rfl (F.2.2.2.1 126 rfl rfl 7).1) ?_
    refine x_iret rfl rfl ?_
    exact jqe (show sp_count a1 = 0 by unfold sp_count; (repeat' split) <;> first | rfl | (exfalso; omega)) (hQ _ (jOl_si rfl O))
  by_cases c5 : a1.toInt = 4
  ·
    refine x_tableIn (tgt := 97) 4 rfl c5 (by decide) (by decide) rfl rfl ?_
    refine x_aloadn (x := 125) rfl rfl ?_
    refine x_getR (b := 126) 12 2 rfl f_12_8 rfl (congrArg Prod.fst (sh_si (F.1 125 (12, 92) rfl rfl))) (rv_si (F.2.1 16002 126 rfl rfl)) ?_
    refine x_bipush (v := 16) rfl kb_16 ?_
    refine y_iald (v := 0) (N := 50660) 16 rfl (sh_si (F.1 126 (100, 50660) rfl rfl)) (jinb_of (by decide)) (by decide) (iv_si rfl (F.2.2.2.1 126 rfl rfl 16).1) ?_
    refine x_iret rfl rfl ?_
    exact jqe (show sp_count a1 = 0 by unfold sp_count; (repeat' split) <;> first | rfl | (exfalso; omega)) (hQ _ (jOl_si rfl O))
  by_cases c6 : a1.toInt = 5
  ·
    refine x_tableIn (tgt := 105) 5 rfl c6 (by decide) (by decide) rfl rfl ?_
    refine x_aloadn (x := 125) rfl rfl ?_
    refine x_getR (b := 126) 12 2 rfl f_12_8 rfl (congrArg Prod.fst (sh_si (F.1 125 (12, 92) rfl rfl))) (rv_si (F.2.1 16002 126 rfl rfl)) ?_
    refine x_bipush (v := 11) rfl kb_11 ?_
    refine y_iald (v := 0) (N := 50660) 11 rfl (sh_si (F.1 126 (100, 50660) rfl rfl)) (jinb_of (by decide)) (by decide) (iv_si rfl (F.2.2.2.1 126 rfl rfl 11).1) ?_
    refine x_iret rfl rfl ?_
    exact jqe (show sp_count a1 = 0 by unfold sp_count; (repeat' split) <;> first | rfl | (exfalso; omega)) (hQ _ (jOl_si rfl O))
  by_cases c7 : a1.toInt = 6
  ·
    refine x_tableIn (tgt := 113) 6 rfl c7 (by decide) (by decide) rfl rfl ?_
    refine x_aloadn (x := 125) rfl rfl ?_
    refine x_getR (b := 126) 12 2 rfl f_12_8 rfl (congrArg Prod.fst (sh_si (F.1 125 (12, 92) rfl rfl))) (rv_si (F.2.1 16002 126 rfl rfl)) ?_
    refine x_iconst (v := 2) rfl ki_2 ?_
    refine y_iald (v := 0) (N := 50660) 2 rfl (sh_si (F.1 126 (100, 50660) rfl rfl)) (jinb_of (by decide)) (by decide) (iv_si rfl (F.2.2.2.1 126 rfl rfl 2).1) ?_
    refine x_iret rfl rfl ?_
    exact jqe (show sp_count a1 = 0 by unfold sp_count; (repeat' split) <;> first | rfl | (exfalso; omega)) (hQ _ (jOl_si rfl O))
  by_cases c8 : a1.toInt = 7
  ·
    refine x_tableIn (tgt := 120) 7 rfl c8 (by decide) (by decide) rfl rfl ?_
    refine x_aloadn (x := 125) rfl rfl ?_
    refine y_getI (v := 0) 12 36 rfl f_12_204 rfl (congrArg Prod.fst (sh_si (F.1 125 (12, 92) rfl rfl))) (iv_si rfl (F.2.2.1 16036 0 rfl rfl)) ?_
    refine x_iret rfl rfl ?_
    exact jqe (show sp_count a1 = 0 by unfold sp_count; (repeat' split) <;> first | rfl | (exfalso; omega)) (hQ _ (jOl_si rfl O))
  by_cases c9 : a1.toInt = 8
  ·
    refine x_tableIn (tgt := 125) 8 rfl c9 (by decide) (by decide) rfl rfl ?_
    refine x_aloadn (x := 125) rfl rfl ?_
    refine y_getI (v := 0) 12 8 rfl f_12_201 rfl (congrArg Prod.fst (sh_si (F.1 125 (12, 92) rfl rfl))) (iv_si rfl (F.2.2.1 16008 0 rfl rfl)) ?_
    refine x_iret rfl rfl ?_
    exact jqe (show sp_count a1 = 0 by unfold sp_count; (repeat' split) <;> first | rfl | (exfalso; omega)) (hQ _ (jOl_si rfl O))
  by_cases c10 : a1.toInt = 9
  ·
    refine x_tableIn (tgt := 130) 9 rfl c10 (by decide) (by decide) rfl rfl ?_
    refine x_aloadn (x := 125) rfl rfl ?_
    refine x_getR (b := 126) 12 2 rfl f_12_8 rfl (congrArg Prod.fst (sh_si (F.1 125 (12, 92) rfl rfl))) (rv_si (F.2.1 16002 126 rfl rfl)) ?_
    refine x_bipush (v := 6) rfl kb_6 ?_
    refine y_iald (v := 0) (N := 50660) 6 rfl (sh_si (F.1 126 (100, 50660) rfl rfl)) (jinb_of (by decide)) (by decide) (iv_si rfl (F.2.2.2.1 126 rfl rfl 6).1) ?_
    refine x_iret rfl rfl ?_
    exact jqe (show sp_count a1 = 0 by unfold sp_count; (repeat' split) <;> first | rfl | (exfalso; omega)) (hQ _ (jOl_si rfl O))
  by_cases c11 : a1.toInt = 10
  ·
    refine x_tableIn (tgt := 138) 10 rfl c11 (by decide) (by decide) rfl rfl ?_
    refine x_aloadn (x := 125) rfl rfl ?_
    refine x_getR (b := 126) 12 2 rfl f_12_8 rfl (congrArg Prod.fst (sh_si (F.1 125 (12, 92) rfl rfl))) (rv_si (F.2.1 16002 126 rfl rfl)) ?_
    refine x_bipush (v := 12) rfl kb_12 ?_
    refine y_iald (v := 0) (N := 50660) 12 rfl (sh_si (F.1 126 (100, 50660) rfl rfl)) (jinb_of (by decide)) (by decide) (iv_si rfl (F.2.2.2.1 126 rfl rfl 12).1) ?_
    refine x_iret rfl rfl ?_
    exact jqe (show sp_count a1 = 0 by unfold sp_count; (repeat' split) <;> first | rfl | (exfalso; omega)) (hQ _ (jOl_si rfl O))
  by_cases c12 : a1.toInt = 11
  ·
    refine x_tableIn (tgt := 146) 11 rfl c12 (by decide) (by decide) rfl rfl ?_
    refine x_aloadn (x := 125) rfl rfl ?_
    refine x_getR (b := 126) 12 2 rfl f_12_8 rfl (congrArg Prod.fst (sh_si (F.1 125 (12, 92) rfl rfl))) (rv_si (F.2.1 16002 126 rfl rfl)) ?_
    refine x_bipush (v := 13) rfl kb_13 ?_
    refine y_iald (v := 0) (N := 50660) 13 rfl (sh_si (F.1 126 (100, 50660) rfl rfl)) (jinb_of (by decide)) (by decide) (iv_si rfl (F.2.2.2.1 126 rfl rfl 13).1) ?_
    refine x_iret rfl rfl ?_
    exact jqe (show sp_count a1 = 0 by unfold sp_count; (repeat' split) <;> first | rfl | (exfalso; omega)) (hQ _ (jOl_si rfl O))
  refine x_tableOut (tgt := 154) rfl (by omega) rfl ?_
  refine x_iconst (v := (-1)) rfl ki_m1 ?_
  refine x_iret rfl rfl ?_
  exact jqe (show sp_count a1 = (-1) by unfold sp_count; (repeat' split) <;> first | rfl | (exfalso; omega)) (hQ _ (jOl_si rfl O))
def sp_status : Int32 := 0
set_option maxRecDepth 100000 in
set_option maxHeartbeats 40000000 in
theorem px_status {xs : Nat → Int32} {h : jH} {Q : Option Value → jH → Prop} (F : jFb 31 h) (O : jOl 7 xs h) (hQ : ∀ h', jFb 125 h' → jOl 7 xs h' → Q (some (.int (sp_status))) h') : jC m_X11_status 100 0 0 [.ref 31] h Q := by
  have FM := jFb_up 125 rfl F
  refine jC.of rfl k_X11_status rfl ?_
  show jX m_X11_status 100 0 0 0 [(0, .ref 31)] [] _ 0 0 _
  refine x_aloadn (x := 31) rfl rfl ?_
  refine y_getI (v := 0) 11 12 rfl f_11_94 rfl (congrArg Prod.fst (F.1 31 (11, 13) rfl rfl)) (F.2.2.1 3980 0 rfl rfl) ?_
  refine x_iret rfl rfl ?_
  exact jqe (show sp_status = 0 by unfold sp_status; (repeat' split) <;> first | rfl | (exfalso; omega)) (hQ _ FM O)
set_option maxRecDepth 100000 in
set_option maxHeartbeats 40000000 in
theorem pm_status {xs : Nat → Int32} {h : jH} {Q : Option Value → jH → Prop} (F : jFb 125 h) (O : jOl 7 xs h) (hQ : ∀ h', jOl 7 xs h' → Q (some (.int (sp_status))) h') : jC m_X12_status 100 0 0 [.ref 125] h Q := by
  refine jC.of rfl k_X12_status rfl ?_
  show jX m_X12_status 100 0 0 0 [(0, .ref 125)] [] _ 0 0 _
  refine x_aloadn (x := 125) rfl rfl ?_
  refine x_iconst (v := 0) rfl ki_0 ?_
  refine x_putI 12 0 rfl f_12_180 rfl (jfin_no TX12 RX12 92 rfl rfl) (congrArg Prod.fst (F.1 125 (12, 92) rfl rfl)) rfl ?_
  refine x_aloadn (x := 125) rfl rfl ?_
  refine y_getI (v := 0) 12 1 rfl f_12_183 rfl (congrArg Prod.fst (sh_si (F.1 125 (12, 92) rfl rfl))) (iv_si rfl (F.2.2.1 16001 0 rfl rfl)) ?_
  refine x_iret rfl rfl ?_
  exact jqe (show sp_status = 0 by unfold sp_status; (repeat' split) <;> first | rfl | (exfalso; omega)) (hQ _ (jOl_si rfl O))
