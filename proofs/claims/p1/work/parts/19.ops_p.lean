set_option maxRecDepth 100000 in
theorem pm_imageT {a1 : Int32} {xs : Nat → Int32} {h : jH} {Q : Option Value → jH → Prop} (ha : 0 ≤ a1.toInt ∧ a1.toInt ≤ 3) (F : jFn 125 h) (O : jOl 7 xs h) (hQ : ∀ h', jOl 7 xs h' → Q (some (.int (sp_image a1))) h') : jX m_X12_image 100 0 0 87 [(2, .int (nI 1600)), (0, .ref 125), (1, .int a1)] [] h 0 0 Q := by
  refine x_aloadn (x := 125) rfl rfl ?_
  refine x_getR (b := 128) 12 4 rfl f_12_18 rfl (congrArg Prod.fst (F.1 125 (12, 92) rfl rfl)) (F.2.1 16004 128 rfl rfl) ?_
  refine x_iloadn (x := a1) rfl rfl ?_
  refine x_iconst (v := 1) rfl ki_1 ?_
  refine y_zast (N := 4) a1.toNatClampNeg rfl (F.1 128 (102, 4) rfl rfl) rfl (by decide) (vpi (by omega)) rfl ?_
  refine x_aloadn (x := 125) rfl rfl ?_
  refine x_iconst (v := 0) rfl ki_0 ?_
  refine x_inv (N := m_X12_told) (As := [.int 0]) (b := 125) (st := []) (d' := 99) (mc := 0) (ms := 0) (host := "") 12 rfl t_X12_told ⟨Or.inl q_12_197, i_X12_told.1, i_X12_told.2⟩ ⟨by decide, rfl⟩ (congrArg Prod.fst (sh_si (F.1 125 (12, 92) rfl rfl))) rfl (by decide) rfl rfl ⟨by decide, by decide⟩ (jC.of rfl k_X12_told rfl ?_)
  show jX m_X12_told 99 0 0 0 [(0, .ref 125), (1, .int 0)] [] _ 0 0 _
  refine x_aloadn (x := 125) rfl rfl ?_
  refine x_iloadn (x := 0) rfl rfl ?_
  refine x_ifge (tgt := 9) rfl rfl (br_t (by decide) ?_)
  refine x_iconst (v := 0) rfl ki_0 ?_
  refine x_putI 12 1 rfl f_12_183 rfl (jfin_no TX12 RX12 92 rfl rfl) (congrArg Prod.fst (sh_si (F.1 125 (12, 92) rfl rfl))) rfl ?_
  refine x_iloadn (x := 0) rfl rfl ?_
  refine x_iret rfl rfl ?_
  show jX m_X12_image 100 0 0 99 [(2, .int (nI 1600)), (0, .ref 125), (1, .int a1)] [.int 0] _ 0 0 _
  refine x_iret rfl rfl ?_
  exact jqe (show sp_image a1 = 0 by unfold sp_image; (repeat' split) <;> first | rfl | (exfalso; omega)) (hQ _ (jOl_si rfl (jOl_si rfl O)))
set_option maxRecDepth 100000 in
theorem pm_image (a1 : Int32) {xs : Nat → Int32} {h : jH} {Q : Option Value → jH → Prop} (F : jFb 125 h) (O : jOl 7 xs h) (hQ : ∀ h', jOl 7 xs h' → Q (some (.int (sp_image a1))) h') : jC m_X12_image 100 0 0 [.ref 125, .int a1] h Q := by
  refine jC.of rfl k_X12_image rfl ?_
  show jX m_X12_image 100 0 0 0 [(0, .ref 125), (1, .int a1)] [] _ 0 0 _
  refine x_aloadn (x := 125) rfl rfl ?_
  refine x_iconst (v := 0) rfl ki_0 ?_
  refine x_putI 12 0 rfl f_12_180 rfl (jfin_no TX12 RX12 92 rfl rfl) (congrArg Prod.fst (F.1 125 (12, 92) rfl rfl)) rfl ?_
  refine x_iloadn (x := a1) rfl rfl ?_
  refine x_i2l rfl ?_
  refine x_lconst (v := 0) rfl kl_0 ?_
  refine x_ldc2 (v := 3) rfl z_12_195 ?_
  refine x_inst (N := m_X12_in) (As := [.long (a1.toInt64), .long 0, .long 3]) (st := []) (d' := 99) (mc := 0) (ms := 0) (host := "") rfl t_X12_in ⟨Or.inl q_12_188, s_X12_in⟩ rfl (by decide) rfl rfl ⟨by decide, by decide⟩ (c_X12_in (m := a1.toInt) (a := 0) (b := 3) (jt_l _) (by decide) (by decide) ?_)
  show jX m_X12_image 100 0 0 14 [(0, .ref 125), (1, .int a1)] [.int (jp (0 ≤ a1.toInt ∧ a1.toInt ≤ 3))] _ 0 0 _
  refine x_ifne (tgt := 23) rfl rfl (jpn ⟨fun c1 => ?_, fun c1 => ?_⟩)
  ·
    refine x_iconst (v := 0) rfl ki_0 ?_
    refine x_istoren (ls' := [(2, .int 0), (0, .ref 125), (1, .int a1)]) rfl rfl rfl ?_
    refine pm_image1 (by omega) (fun h1 F1 O1 => ?_) 50660 0 rfl _ (jFn_sv rfl rfl (jFn_of F)) (jOl_si rfl O)
    refine x_iconst (v := 0) rfl ki_0 ?_
    refine x_istoren (ls' := [(2, .int 0), (0, .ref 125), (1, .int a1)]) rfl rfl rfl ?_
    exact pm_image2 (by omega) (fun h2 F2 O2 => pm_imageT (by omega) F2 O2 hQ) 1600 0 rfl _ F1 O1
  ·
    refine x_aloadn (x := 125) rfl rfl ?_
    refine x_iconst (v := (-1)) rfl ki_m1 ?_
    refine x_inv (N := m_X12_told) (As := [.int (-1)]) (b := 125) (st := []) (d' := 99) (mc := 0) (ms := 0) (host := "") 12 rfl t_X12_told ⟨Or.inl q_12_197, i_X12_told.1, i_X12_told.2⟩ ⟨by decide, rfl⟩ (congrArg Prod.fst (sh_si (F.1 125 (12, 92) rfl rfl))) rfl (by decide) rfl rfl ⟨by decide, by decide⟩ (jC.of rfl k_X12_told rfl ?_)
    show jX m_X12_told 99 0 0 0 [(0, .ref 125), (1, .int (-1))] [] _ 0 0 _
    refine x_aloadn (x := 125) rfl rfl ?_
    refine x_iloadn (x := (-1)) rfl rfl ?_
    refine x_ifge (tgt := 9) rfl rfl (br_f (by decide) ?_)
    refine x_iloadn (x := (-1)) rfl rfl ?_
    refine x_goto (tgt := 10) rfl rfl ?_
    refine x_putI 12 1 rfl f_12_183 rfl (jfin_no TX12 RX12 92 rfl rfl) (congrArg Prod.fst (sh_si (F.1 125 (12, 92) rfl rfl))) rfl ?_
    refine x_iloadn (x := (-1)) rfl rfl ?_
    refine x_iret rfl rfl ?_
    show jX m_X12_image 100 0 0 22 [(0, .ref 125), (1, .int a1)] [.int (-1)] _ 0 0 _
    refine x_iret rfl rfl ?_
    exact jqe (show sp_image a1 = (-1) by unfold sp_image; (repeat' split) <;> first | rfl | (exfalso; omega)) (hQ _ (jOl_si rfl (jOl_si rfl O)))
