def sp_owe (a1 a2 a3 : Int32) : Int32 := (-1)
set_option maxRecDepth 100000 in
set_option maxHeartbeats 40000000 in
theorem px_owe (a1 a2 a3 : Int32) {xs : Nat → Int32} {h : jH} {Q : Option Value → jH → Prop} (F : jFb 31 h) (O : jOl 7 xs h) (hQ : ∀ h', jFb 125 h' → jOl 7 xs h' → Q (some (.int (sp_owe a1 a2 a3))) h') : jC m_X11_owe 100 0 0 [.ref 31, .int a1, .int a2, .int a3] h Q := by
  have FM := jFb_up 125 rfl F
  refine jC.of rfl k_X11_owe rfl ?_
  show jX m_X11_owe 100 0 0 0 [(0, .ref 31), (1, .int a1), (2, .int a2), (3, .int a3)] [] _ 0 0 _
  refine x_iloadn (x := a3) rfl rfl ?_
  refine x_inst (N := m_X11_isDay) (As := [.int a3]) (st := []) (d' := 99) (mc := 0) (ms := 0) (host := "") rfl t_X11_isDay ⟨Or.inl q_11_115, s_X11_isDay⟩ rfl (by decide) rfl rfl ⟨by decide, by decide⟩ (c_X11_isDay (x := a3) ?_)
  show jX m_X11_owe 100 0 0 4 [(0, .ref 31), (1, .int a1), (2, .int a2), (3, .int a3)] [.int (jp (0 ≤ a3.toInt ∧ a3.toInt ≤ 146399))] _ 0 0 _
  refine x_ifeq (tgt := 35) rfl rfl (jpe ⟨fun c1 => ?_, fun c1 => ?_⟩)
  ·
    refine x_iconst (v := (-1)) rfl ki_m1 ?_
    refine x_iret rfl rfl ?_
    exact jqe (show sp_owe a1 a2 a3 = (-1) by unfold sp_owe; (repeat' split) <;> first | rfl | (exfalso; omega)) (hQ _ (by repeat (first | exact FM | refine jFb_si rfl ?_ | refine jFb_sl rfl ?_ | refine jFb_ci rfl ?_ | refine jFb_cl rfl ?_ | refine jFb_sr rfl ?_)) (by repeat (first | exact O | refine jOl_si rfl ?_ | refine jOl_sl rfl ?_ | refine jOl_ci rfl ?_ | refine jOl_cl rfl ?_ | refine jOl_sr rfl ?_)))
  ·
    refine x_aloadn (x := 31) rfl rfl ?_
    refine x_getR (b := 32) 11 0 rfl f_11_10 rfl (congrArg Prod.fst (F.1 31 (11, 13) rfl rfl)) (F.2.1 3968 32 rfl rfl) ?_
    refine x_getR (b := 53) 1 10 rfl f_11_437 rfl (congrArg Prod.fst (F.1 32 (1, 20) rfl rfl)) (F.2.1 4106 53 rfl rfl) ?_
    refine x_iloadn (x := a1) rfl rfl ?_
    refine x_iloadn (x := a3) rfl rfl ?_
    refine x_inv (N := m_X8_isKnown) (As := [.int a1, .int a3]) (b := 53) (st := []) (d' := 99) (mc := 0) (ms := 0) (host := "") 8 rfl t_X8_isKnown ⟨Or.inl q_11_440, i_X8_isKnown.1, i_X8_isKnown.2⟩ ⟨by decide, rfl⟩ (congrArg Prod.fst (F.1 53 (8, 4) rfl rfl)) rfl (by decide) rfl rfl ⟨by decide, by decide⟩ (jC.of rfl k_X8_isKnown rfl ?_)
    show jX m_X8_isKnown 99 0 0 0 [(0, .ref 53), (1, .int a1), (2, .int a3)] [] _ 0 0 _
    refine x_iloadn (x := a1) rfl rfl ?_
    refine x_iflt (tgt := 31) rfl rfl (ti_lt (show (a1 : Int32).toInt = a1.toInt from rfl) (show (0 : Int32).toInt = 0 by decide) ⟨fun c2 => ?_, fun c2 => ?_⟩)
    ·
      refine x_iconst (v := 0) rfl ki_0 ?_
      refine x_zret rfl rfl (by first | decide | exact jp_01 _) ?_
      show jX m_X11_owe 100 0 0 19 [(0, .ref 31), (1, .int a1), (2, .int a2), (3, .int a3)] [.int 0] _ 0 0 _
      refine x_ifeq (tgt := 35) rfl rfl (br_t (by decide) ?_)
      refine x_iconst (v := (-1)) rfl ki_m1 ?_
      refine x_iret rfl rfl ?_
      exact jqe (show sp_owe a1 a2 a3 = (-1) by unfold sp_owe; (repeat' split) <;> first | rfl | (exfalso; omega)) (hQ _ (by repeat (first | exact FM | refine jFb_si rfl ?_ | refine jFb_sl rfl ?_ | refine jFb_ci rfl ?_ | refine jFb_cl rfl ?_ | refine jFb_sr rfl ?_)) (by repeat (first | exact O | refine jOl_si rfl ?_ | refine jOl_sl rfl ?_ | refine jOl_ci rfl ?_ | refine jOl_cl rfl ?_ | refine jOl_sr rfl ?_)))
    ·
      refine x_iloadn (x := a1) rfl rfl ?_
      refine x_aloadn (x := 53) rfl rfl ?_
      refine y_getI (v := 0) 8 3 rfl f_8_7 rfl (congrArg Prod.fst (F.1 53 (8, 4) rfl rfl)) (F.2.2.1 6787 0 rfl rfl) ?_
      refine x_icge (tgt := 31) rfl rfl (ti_ge (show (a1 : Int32).toInt = a1.toInt from rfl) (show (0 : Int32).toInt = 0 by decide) ⟨fun c3 => ?_, fun c3 => ?_⟩)
      ·
        refine x_iconst (v := 0) rfl ki_0 ?_
        refine x_zret rfl rfl (by first | decide | exact jp_01 _) ?_
        show jX m_X11_owe 100 0 0 19 [(0, .ref 31), (1, .int a1), (2, .int a2), (3, .int a3)] [.int 0] _ 0 0 _
        refine x_ifeq (tgt := 35) rfl rfl (br_t (by decide) ?_)
        refine x_iconst (v := (-1)) rfl ki_m1 ?_
        refine x_iret rfl rfl ?_
        exact jqe (show sp_owe a1 a2 a3 = (-1) by unfold sp_owe; (repeat' split) <;> first | rfl | (exfalso; omega)) (hQ _ (by repeat (first | exact FM | refine jFb_si rfl ?_ | refine jFb_sl rfl ?_ | refine jFb_ci rfl ?_ | refine jFb_cl rfl ?_ | refine jFb_sr rfl ?_)) (by repeat (first | exact O | refine jOl_si rfl ?_ | refine jOl_sl rfl ?_ | refine jOl_ci rfl ?_ | refine jOl_cl rfl ?_ | refine jOl_sr rfl ?_)))
      ·
        refine x_aloadn (x := 53) rfl rfl ?_
        refine x_getR (b := 54) 8 2 rfl f_8_25 rfl (congrArg Prod.fst (F.1 53 (8, 4) rfl rfl)) (F.2.1 6786 54 rfl rfl) ?_
        refine x_iloadn (x := a1) rfl rfl ?_
        refine x_aloadn (x := 53) rfl rfl ?_
        refine y_getI (v := 4) 8 0 rfl f_8_19 rfl (congrArg Prod.fst (F.1 53 (8, 4) rfl rfl)) (F.2.2.1 6784 4 rfl rfl) ?_
        refine x_imul rfl ?_
        refine y_iald (v := 0) (N := 160) (a1 * 4).toNatClampNeg rfl (F.1 54 (100, 160) rfl rfl) (vpi (by omega)) rfl (F.2.2.2.1 54 rfl rfl _).1 ?_
        refine x_iloadn (x := a3) rfl rfl ?_
        refine x_icgt (tgt := 31) rfl rfl (ti_gt (show (0 : Int32).toInt = 0 by decide) (show (a3 : Int32).toInt = a3.toInt from rfl) ⟨fun c4 => ?_, fun c4 => ?_⟩)
        ·
          refine x_iconst (v := 0) rfl ki_0 ?_
          refine x_zret rfl rfl (by first | decide | exact jp_01 _) ?_
          show jX m_X11_owe 100 0 0 19 [(0, .ref 31), (1, .int a1), (2, .int a2), (3, .int a3)] [.int 0] _ 0 0 _
          refine x_ifeq (tgt := 35) rfl rfl (br_t (by decide) ?_)
          refine x_iconst (v := (-1)) rfl ki_m1 ?_
          refine x_iret rfl rfl ?_
          exact jqe (show sp_owe a1 a2 a3 = (-1) by unfold sp_owe; (repeat' split) <;> first | rfl | (exfalso; omega)) (hQ _ (by repeat (first | exact FM | refine jFb_si rfl ?_ | refine jFb_sl rfl ?_ | refine jFb_ci rfl ?_ | refine jFb_cl rfl ?_ | refine jFb_sr rfl ?_)) (by repeat (first | exact O | refine jOl_si rfl ?_ | refine jOl_sl rfl ?_ | refine jOl_ci rfl ?_ | refine jOl_cl rfl ?_ | refine jOl_sr rfl ?_)))
        ·
          refine x_iconst (v := 1) rfl ki_1 ?_
          refine x_goto (tgt := 32) rfl rfl ?_
          refine x_zret rfl rfl (by first | decide | exact jp_01 _) ?_
          show jX m_X11_owe 100 0 0 19 [(0, .ref 31), (1, .int a1), (2, .int a2), (3, .int a3)] [.int 1] _ 0 0 _
          refine x_ifeq (tgt := 35) rfl rfl (br_f (by decide) ?_)
          refine x_iloadn (x := a2) rfl rfl ?_
          refine x_iconst (v := (-1)) rfl ki_m1 ?_
          refine x_iceq (tgt := 37) rfl rfl (ti_eq (show (a2 : Int32).toInt = a2.toInt from rfl) (show ((-1) : Int32).toInt = (-1) by decide) ⟨fun c5 => ?_, fun c5 => ?_⟩)
          ·
            refine x_aloadn (x := 31) rfl rfl ?_
            refine x_getR (b := 78) 11 4 rfl f_11_41 rfl (congrArg Prod.fst (F.1 31 (11, 13) rfl rfl)) (F.2.1 3972 78 rfl rfl) ?_
            refine x_iloadn (x := a3) rfl rfl ?_
            refine x_inv (N := m_X7_asKnown) (As := [.int a3]) (b := 78) (st := []) (d' := 99) (mc := 0) (ms := 0) (host := "") 7 rfl t_X7_asKnown ⟨Or.inl q_11_240, i_X7_asKnown.1, i_X7_asKnown.2⟩ ⟨by decide, rfl⟩ (congrArg Prod.fst (F.1 78 (7, 16) rfl rfl)) rfl (by decide) rfl rfl ⟨by decide, by decide⟩ (jC.of rfl k_X7_asKnown rfl ?_)
            show jX m_X7_asKnown 99 0 0 0 [(0, .ref 78), (1, .int a3)] [] _ 0 0 _
            refine x_aloadn (x := 78) rfl rfl ?_
            refine x_getR (b := 86) 7 15 rfl f_7_52 rfl (congrArg Prod.fst (F.1 78 (7, 16) rfl rfl)) (F.2.1 9999 86 rfl rfl) ?_
            refine x_iloadn (x := a3) rfl rfl ?_
            refine x_iconst (v := 0) rfl ki_0 ?_
            refine x_aloadn (x := 78) rfl rfl ?_
            refine x_getR (b := 32) 7 0 rfl f_7_55 rfl (congrArg Prod.fst (F.1 78 (7, 16) rfl rfl)) (F.2.1 9984 32 rfl rfl) ?_
            refine y_getI (v := 1) 1 19 rfl f_7_140 rfl (congrArg Prod.fst (F.1 32 (1, 20) rfl rfl)) (F.2.2.1 4115 1 rfl rfl) ?_
            refine x_inst (N := m_X11_isFresh) (As := [.ref 86, .int a3, .int 0, .int 1]) (st := []) (d' := 98) (mc := 0) (ms := 0) (host := "ParishChest") rfl t_X11_isFresh ⟨Or.inr q_7_143, s_X11_isFresh⟩ rfl (by decide) rfl rfl ⟨by decide, by decide⟩ (jC.of rfl k_X11_isFresh rfl ?_)
            show jX m_X11_isFresh 98 0 0 0 [(0, .ref 86), (1, .int a3), (2, .int 0), (3, .int 1)] [] _ 0 0 _
            refine x_aloadn (x := 86) rfl rfl ?_
            refine y_alen (N := 3) (v := 3) rfl (F.1 86 (100, 3) rfl rfl) (by decide) (by decide) ?_
            refine x_iconst (v := 3) rfl ki_3 ?_
            refine x_icge (tgt := 8) rfl rfl (br_t (by decide) ?_)
            refine x_aloadn (x := 86) rfl rfl ?_
            refine x_iconst (v := 0) rfl ki_0 ?_
            refine y_iald (v := 0) (N := 3) 0 rfl (F.1 86 (100, 3) rfl rfl) (jinb_of (by decide)) (by decide) (F.2.2.2.1 86 rfl rfl 0).1 ?_
            refine x_iloadn (x := a3) rfl rfl ?_
            refine x_icne (tgt := 33) rfl rfl (ti_ne (show (0 : Int32).toInt = 0 by decide) (show (a3 : Int32).toInt = a3.toInt from rfl) ⟨fun c6 => ?_, fun c6 => ?_⟩)
            ·
              refine x_iconst (v := 0) rfl ki_0 ?_
              refine x_istore (ls' := [(4, .int 0), (0, .ref 86), (1, .int a3), (2, .int 0), (3, .int 1)]) rfl rfl rfl ?_
              refine x_aloadn (x := 86) rfl rfl ?_
              refine x_iconst (v := 0) rfl ki_0 ?_
              refine x_iloadn (x := a3) rfl rfl ?_
              refine y_iast (N := 3) 0 rfl (F.1 86 (100, 3) rfl rfl) rfl (jinb_of (by decide)) (by decide) ?_
              refine x_aloadn (x := 86) rfl rfl ?_
              refine x_iconst (v := 1) rfl ki_1 ?_
              refine x_iloadn (x := 0) rfl rfl ?_
              refine y_iast (N := 3) 1 rfl (F.1 86 (100, 3) rfl rfl) rfl (jinb_of (by decide)) (by decide) ?_
              refine x_aloadn (x := 86) rfl rfl ?_
              refine x_iconst (v := 2) rfl ki_2 ?_
              refine x_iloadn (x := 1) rfl rfl ?_
              refine y_iast (N := 3) 2 rfl (F.1 86 (100, 3) rfl rfl) rfl (jinb_of (by decide)) (by decide) ?_
              refine x_iload (x := 0) rfl rfl ?_
              refine x_zret rfl rfl (by first | decide | exact jp_01 _) ?_
              show jX m_X7_asKnown 99 0 0 16 [(0, .ref 78), (1, .int a3)] [.int 0] _ 0 0 _
              refine x_ifeq (tgt := 20) rfl rfl (br_t (by decide) ?_)
              refine x_iconst (v := 0) rfl ki_0 ?_
              refine x_istoren (ls' := [(2, .int 0), (0, .ref 78), (1, .int a3)]) rfl rfl rfl ?_
              refine x_iloadn (x := 0) rfl rfl ?_
              refine x_aloadn (x := 78) rfl rfl ?_
              refine x_getR (b := 32) 7 0 rfl f_7_55 rfl (congrArg Prod.fst (F.1 78 (7, 16) rfl rfl)) (F.2.1 9984 32 rfl rfl) ?_
              refine x_getR (b := 33) 1 0 rfl f_7_63 rfl (congrArg Prod.fst (F.1 32 (1, 20) rfl rfl)) (F.2.1 4096 33 rfl rfl) ?_
              refine y_getI (v := 0) 8 3 rfl f_7_85 rfl (congrArg Prod.fst (F.1 33 (8, 4) rfl rfl)) (F.2.2.1 4227 0 rfl rfl) ?_
              refine x_iconst (v := 3) rfl ki_3 ?_
              refine y_imul (v := 0) rfl (by decide) ?_
              refine x_icge (tgt := 96) rfl rfl (br_t (by decide) ?_)
              refine x_aloadn (x := 78) rfl rfl ?_
              refine x_iconst (v := 0) rfl ki_0 ?_
              refine x_putI 7 13 rfl f_7_46 rfl (jfin_no TX7 RX7 16 rfl rfl) (congrArg Prod.fst (F.1 78 (7, 16) rfl rfl)) rfl ?_
              refine x_iconst (v := 0) rfl ki_0 ?_
              refine x_istoren (ls' := [(2, .int 0), (0, .ref 78), (1, .int a3)]) rfl rfl rfl ?_
              refine x_iloadn (x := 0) rfl rfl ?_
              refine x_aloadn (x := 78) rfl rfl ?_
              refine x_getR (b := 32) 7 0 rfl f_7_55 rfl (congrArg Prod.fst (F.1 78 (7, 16) rfl rfl)) (F.2.1 9984 32 rfl rfl) ?_
              refine x_getR (b := 39) 1 3 rfl f_7_150 rfl (congrArg Prod.fst (F.1 32 (1, 20) rfl rfl)) (F.2.1 4099 39 rfl rfl) ?_
              refine y_getI (v := 0) 8 3 rfl f_7_85 rfl (congrArg Prod.fst (F.1 39 (8, 4) rfl rfl)) (F.2.2.1 4995 0 rfl rfl) ?_
              refine x_icge (tgt := 175) rfl rfl (br_t (by decide) ?_)
              refine x_vret rfl rfl ?_
              show jX m_X11_owe 100 0 0 45 [(0, .ref 31), (1, .int a1), (2, .int a2), (3, .int a3)] [] _ 0 0 _
              refine x_aloadn (x := 31) rfl rfl ?_
              refine x_getR (b := 107) 11 8 rfl f_11_75 rfl (congrArg Prod.fst (F.1 31 (11, 13) rfl rfl)) (F.2.1 3976 107 rfl rfl) ?_
              refine x_iloadn (x := a1) rfl rfl ?_
              refine x_iloadn (x := a3) rfl rfl ?_
              refine x_inv (N := m_X4_partOut) (As := [.int a1, .int a3]) (b := 107) (st := []) (d' := 99) (mc := 0) (ms := 0) (host := "") 4 rfl t_X4_partOut ⟨Or.inl q_11_443, i_X4_partOut.1, i_X4_partOut.2⟩ ⟨by decide, rfl⟩ (congrArg Prod.fst (F.1 107 (4, 18) rfl rfl)) rfl (by decide) rfl rfl ⟨by decide, by decide⟩ (jC.of rfl k_X4_partOut rfl ?_)
              show jX m_X4_partOut 99 0 0 0 [(0, .ref 107), (1, .int a1), (2, .int a3)] [] _ 0 0 _
              refine x_aloadn (x := 107) rfl rfl ?_
              refine x_getR (b := 111) 4 6 rfl f_4_22 rfl (congrArg Prod.fst (F.1 107 (4, 18) rfl rfl)) (F.2.1 13702 111 rfl rfl) ?_
              refine x_iloadn (x := a1) rfl rfl ?_
              refine x_iloadn (x := a3) rfl rfl ?_
              refine x_aloadn (x := 107) rfl rfl ?_
              refine x_getR (b := 32) 4 0 rfl f_4_59 rfl (congrArg Prod.fst (F.1 107 (4, 18) rfl rfl)) (F.2.1 13696 32 rfl rfl) ?_
              refine y_getI (v := 1) 1 19 rfl f_4_88 rfl (congrArg Prod.fst (F.1 32 (1, 20) rfl rfl)) (F.2.2.1 4115 1 rfl rfl) ?_
              refine x_inst (N := m_X11_isFresh) (As := [.ref 111, .int a1, .int a3, .int 1]) (st := []) (d' := 98) (mc := 0) (ms := 0) (host := "ParishChest") rfl t_X11_isFresh ⟨Or.inr q_4_91, s_X11_isFresh⟩ rfl (by decide) rfl rfl ⟨by decide, by decide⟩ (jC.of rfl k_X11_isFresh rfl ?_)
              show jX m_X11_isFresh 98 0 0 0 [(0, .ref 111), (1, .int a1), (2, .int a3), (3, .int 1)] [] _ 0 0 _
              refine x_aloadn (x := 111) rfl rfl ?_
              refine y_alen (N := 3) (v := 3) rfl (F.1 111 (100, 3) rfl rfl) (by decide) (by decide) ?_
              refine x_iconst (v := 3) rfl ki_3 ?_
              refine x_icge (tgt := 8) rfl rfl (br_t (by decide) ?_)
              refine x_aloadn (x := 111) rfl rfl ?_
              refine x_iconst (v := 0) rfl ki_0 ?_
              refine y_iald (v := 0) (N := 3) 0 rfl (F.1 111 (100, 3) rfl rfl) (jinb_of (by decide)) (by decide) (F.2.2.2.1 111 rfl rfl 0).1 ?_
              refine x_iloadn (x := a1) rfl rfl ?_
              refine x_icne (tgt := 33) rfl rfl (ti_ne (show (0 : Int32).toInt = 0 by decide) (show (a1 : Int32).toInt = a1.toInt from rfl) ⟨fun c7 => ?_, fun c7 => ?_⟩)
              ·
                refine x_iconst (v := 0) rfl ki_0 ?_
                refine x_istore (ls' := [(4, .int 0), (0, .ref 111), (1, .int a1), (2, .int a3), (3, .int 1)]) rfl rfl rfl ?_
                refine x_aloadn (x := 111) rfl rfl ?_
                refine x_iconst (v := 0) rfl ki_0 ?_
                refine x_iloadn (x := a1) rfl rfl ?_
                refine y_iast (N := 3) 0 rfl (F.1 111 (100, 3) rfl rfl) rfl (jinb_of (by decide)) (by decide) ?_
                refine x_aloadn (x := 111) rfl rfl ?_
                refine x_iconst (v := 1) rfl ki_1 ?_
                refine x_iloadn (x := a3) rfl rfl ?_
                refine y_iast (N := 3) 1 rfl (F.1 111 (100, 3) rfl rfl) rfl (jinb_of (by decide)) (by decide) ?_
                refine x_aloadn (x := 111) rfl rfl ?_
                refine x_iconst (v := 2) rfl ki_2 ?_
                refine x_iloadn (x := 1) rfl rfl ?_
                refine y_iast (N := 3) 2 rfl (F.1 111 (100, 3) rfl rfl) rfl (jinb_of (by decide)) (by decide) ?_
                refine x_iload (x := 0) rfl rfl ?_
                refine x_zret rfl rfl (by first | decide | exact jp_01 _) ?_
                show jX m_X4_partOut 99 0 0 16 [(0, .ref 107), (1, .int a1), (2, .int a3)] [.int 0] _ 0 0 _
                refine x_ifeq (tgt := 20) rfl rfl (br_t (by decide) ?_)
                refine x_aloadn (x := 107) rfl rfl ?_
                refine x_getR (b := 32) 4 0 rfl f_4_59 rfl (congrArg Prod.fst (F.1 107 (4, 18) rfl rfl)) (F.2.1 13696 32 rfl rfl) ?_
                refine x_getR (b := 53) 1 10 rfl f_4_95 rfl (congrArg Prod.fst (F.1 32 (1, 20) rfl rfl)) (F.2.1 4106 53 rfl rfl) ?_
                refine x_iloadn (x := a1) rfl rfl ?_
                refine x_iconst (v := 2) rfl ki_2 ?_
                refine x_inv (N := m_X8_at) (As := [.int a1, .int 2]) (b := 53) (st := []) (d' := 98) (mc := 0) (ms := 0) (host := "") 8 rfl t_X8_at ⟨Or.inl q_4_98, i_X8_at.1, i_X8_at.2⟩ ⟨by decide, rfl⟩ (congrArg Prod.fst (F.1 53 (8, 4) rfl rfl)) rfl (by decide) rfl rfl ⟨by decide, by decide⟩ (jC.of rfl k_X8_at rfl ?_)
                show jX m_X8_at 98 0 0 0 [(0, .ref 53), (1, .int a1), (2, .int 2)] [] _ 0 0 _
                refine x_iloadn (x := a1) rfl rfl ?_
                refine x_iflt (tgt := 24) rfl rfl (ti_lt (show (a1 : Int32).toInt = a1.toInt from rfl) (show (0 : Int32).toInt = 0 by decide) (br_f c2 ?_))
                refine x_iloadn (x := a1) rfl rfl ?_
                refine x_aloadn (x := 53) rfl rfl ?_
                refine y_getI (v := 0) 8 3 rfl f_8_7 rfl (congrArg Prod.fst (F.1 53 (8, 4) rfl rfl)) (F.2.2.1 6787 0 rfl rfl) ?_
                refine x_icge (tgt := 24) rfl rfl (ti_ge (show (a1 : Int32).toInt = a1.toInt from rfl) (show (0 : Int32).toInt = 0 by decide) (br_f c3 ?_))
                refine x_iloadn (x := 2) rfl rfl ?_
                refine x_iflt (tgt := 24) rfl rfl (br_f (by decide) ?_)
                refine x_iloadn (x := 2) rfl rfl ?_
                refine x_aloadn (x := 53) rfl rfl ?_
                refine y_getI (v := 4) 8 0 rfl f_8_19 rfl (congrArg Prod.fst (F.1 53 (8, 4) rfl rfl)) (F.2.2.1 6784 4 rfl rfl) ?_
                refine x_iclt (tgt := 26) rfl rfl (br_t (by decide) ?_)
                refine x_aloadn (x := 53) rfl rfl ?_
                refine x_getR (b := 54) 8 2 rfl f_8_25 rfl (congrArg Prod.fst (F.1 53 (8, 4) rfl rfl)) (F.2.1 6786 54 rfl rfl) ?_
                refine x_iloadn (x := a1) rfl rfl ?_
                refine x_aloadn (x := 53) rfl rfl ?_
                refine y_getI (v := 4) 8 0 rfl f_8_19 rfl (congrArg Prod.fst (F.1 53 (8, 4) rfl rfl)) (F.2.2.1 6784 4 rfl rfl) ?_
                refine x_imul rfl ?_
                refine x_iloadn (x := 2) rfl rfl ?_
                refine x_iadd rfl ?_
                refine y_iald (v := 0) (N := 160) ((a1 * 4) + 2).toNatClampNeg rfl (F.1 54 (100, 160) rfl rfl) (vpi (by omega)) rfl (F.2.2.2.1 54 rfl rfl _).1 ?_
                refine x_iret rfl rfl ?_
                show jX m_X4_partOut 99 0 0 32 [(0, .ref 107), (1, .int a1), (2, .int a3)] [.int 0] _ 0 0 _
                refine x_istoren (ls' := [(3, .int 0), (0, .ref 107), (1, .int a1), (2, .int a3)]) rfl rfl rfl ?_
                refine x_aloadn (x := 107) rfl rfl ?_
                refine x_getR (b := 32) 4 0 rfl f_4_59 rfl (congrArg Prod.fst (F.1 107 (4, 18) rfl rfl)) (F.2.1 13696 32 rfl rfl) ?_
                refine x_getR (b := 53) 1 10 rfl f_4_95 rfl (congrArg Prod.fst (F.1 32 (1, 20) rfl rfl)) (F.2.1 4106 53 rfl rfl) ?_
                refine x_iloadn (x := a1) rfl rfl ?_
                refine x_iconst (v := 3) rfl ki_3 ?_
                refine x_inv (N := m_X8_at) (As := [.int a1, .int 3]) (b := 53) (st := []) (d' := 98) (mc := 0) (ms := 0) (host := "") 8 rfl t_X8_at ⟨Or.inl q_4_98, i_X8_at.1, i_X8_at.2⟩ ⟨by decide, rfl⟩ (congrArg Prod.fst (F.1 53 (8, 4) rfl rfl)) rfl (by decide) rfl rfl ⟨by decide, by decide⟩ (jC.of rfl k_X8_at rfl ?_)
                show jX m_X8_at 98 0 0 0 [(0, .ref 53), (1, .int a1), (2, .int 3)] [] _ 0 0 _
                refine x_iloadn (x := a1) rfl rfl ?_
                refine x_iflt (tgt := 24) rfl rfl (ti_lt (show (a1 : Int32).toInt = a1.toInt from rfl) (show (0 : Int32).toInt = 0 by decide) (br_f c2 ?_))
                refine x_iloadn (x := a1) rfl rfl ?_
                refine x_aloadn (x := 53) rfl rfl ?_
                refine y_getI (v := 0) 8 3 rfl f_8_7 rfl (congrArg Prod.fst (F.1 53 (8, 4) rfl rfl)) (F.2.2.1 6787 0 rfl rfl) ?_
                refine x_icge (tgt := 24) rfl rfl (ti_ge (show (a1 : Int32).toInt = a1.toInt from rfl) (show (0 : Int32).toInt = 0 by decide) (br_f c3 ?_))
                refine x_iloadn (x := 3) rfl rfl ?_
                refine x_iflt (tgt := 24) rfl rfl (br_f (by decide) ?_)
                refine x_iloadn (x := 3) rfl rfl ?_
                refine x_aloadn (x := 53) rfl rfl ?_
                refine y_getI (v := 4) 8 0 rfl f_8_19 rfl (congrArg Prod.fst (F.1 53 (8, 4) rfl rfl)) (F.2.2.1 6784 4 rfl rfl) ?_
                refine x_iclt (tgt := 26) rfl rfl (br_t (by decide) ?_)
                refine x_aloadn (x := 53) rfl rfl ?_
                refine x_getR (b := 54) 8 2 rfl f_8_25 rfl (congrArg Prod.fst (F.1 53 (8, 4) rfl rfl)) (F.2.1 6786 54 rfl rfl) ?_
                refine x_iloadn (x := a1) rfl rfl ?_
                refine x_aloadn (x := 53) rfl rfl ?_
                refine y_getI (v := 4) 8 0 rfl f_8_19 rfl (congrArg Prod.fst (F.1 53 (8, 4) rfl rfl)) (F.2.2.1 6784 4 rfl rfl) ?_
                refine x_imul rfl ?_
                refine x_iloadn (x := 3) rfl rfl ?_
                refine x_iadd rfl ?_
                refine y_iald (v := 0) (N := 160) ((a1 * 4) + 3).toNatClampNeg rfl (F.1 54 (100, 160) rfl rfl) (vpi (by omega)) rfl (F.2.2.2.1 54 rfl rfl _).1 ?_
                refine x_iret rfl rfl ?_
                show jX m_X4_partOut 99 0 0 45 [(3, .int 0), (0, .ref 107), (1, .int a1), (2, .int a3)] [.int 0] _ 0 0 _
                refine x_istore (ls' := [(4, .int 0), (3, .int 0), (0, .ref 107), (1, .int a1), (2, .int a3)]) rfl rfl rfl ?_
                refine x_aloadn (x := 107) rfl rfl ?_
                refine x_getR (b := 98) 4 2 rfl f_4_67 rfl (congrArg Prod.fst (F.1 107 (4, 18) rfl rfl)) (F.2.1 13698 98 rfl rfl) ?_
                refine x_aloadn (x := 107) rfl rfl ?_
                refine x_getR (b := 32) 4 0 rfl f_4_59 rfl (congrArg Prod.fst (F.1 107 (4, 18) rfl rfl)) (F.2.1 13696 32 rfl rfl) ?_
                refine x_getR (b := 53) 1 10 rfl f_4_95 rfl (congrArg Prod.fst (F.1 32 (1, 20) rfl rfl)) (F.2.1 4106 53 rfl rfl) ?_
                refine x_iloadn (x := a1) rfl rfl ?_
                refine x_iconst (v := 1) rfl ki_1 ?_
                refine x_inv (N := m_X8_at) (As := [.int a1, .int 1]) (b := 53) (st := [.ref 98]) (d' := 98) (mc := 0) (ms := 0) (host := "") 8 rfl t_X8_at ⟨Or.inl q_4_98, i_X8_at.1, i_X8_at.2⟩ ⟨by decide, rfl⟩ (congrArg Prod.fst (F.1 53 (8, 4) rfl rfl)) rfl (by decide) rfl rfl ⟨by decide, by decide⟩ (jC.of rfl k_X8_at rfl ?_)
                show jX m_X8_at 98 0 0 0 [(0, .ref 53), (1, .int a1), (2, .int 1)] [] _ 0 0 _
                refine x_iloadn (x := a1) rfl rfl ?_
                refine x_iflt (tgt := 24) rfl rfl (ti_lt (show (a1 : Int32).toInt = a1.toInt from rfl) (show (0 : Int32).toInt = 0 by decide) (br_f c2 ?_))
                refine x_iloadn (x := a1) rfl rfl ?_
                refine x_aloadn (x := 53) rfl rfl ?_
                refine y_getI (v := 0) 8 3 rfl f_8_7 rfl (congrArg Prod.fst (F.1 53 (8, 4) rfl rfl)) (F.2.2.1 6787 0 rfl rfl) ?_
                refine x_icge (tgt := 24) rfl rfl (ti_ge (show (a1 : Int32).toInt = a1.toInt from rfl) (show (0 : Int32).toInt = 0 by decide) (br_f c3 ?_))
                refine x_iloadn (x := 1) rfl rfl ?_
                refine x_iflt (tgt := 24) rfl rfl (br_f (by decide) ?_)
                refine x_iloadn (x := 1) rfl rfl ?_
                refine x_aloadn (x := 53) rfl rfl ?_
                refine y_getI (v := 4) 8 0 rfl f_8_19 rfl (congrArg Prod.fst (F.1 53 (8, 4) rfl rfl)) (F.2.2.1 6784 4 rfl rfl) ?_
                refine x_iclt (tgt := 26) rfl rfl (br_t (by decide) ?_)
                refine x_aloadn (x := 53) rfl rfl ?_
                refine x_getR (b := 54) 8 2 rfl f_8_25 rfl (congrArg Prod.fst (F.1 53 (8, 4) rfl rfl)) (F.2.1 6786 54 rfl rfl) ?_
                refine x_iloadn (x := a1) rfl rfl ?_
                refine x_aloadn (x := 53) rfl rfl ?_
                refine y_getI (v := 4) 8 0 rfl f_8_19 rfl (congrArg Prod.fst (F.1 53 (8, 4) rfl rfl)) (F.2.2.1 6784 4 rfl rfl) ?_
                refine x_imul rfl ?_
                refine x_iloadn (x := 1) rfl rfl ?_
                refine x_iadd rfl ?_
                refine y_iald (v := 0) (N := 160) ((a1 * 4) + 1).toNatClampNeg rfl (F.1 54 (100, 160) rfl rfl) (vpi (by omega)) rfl (F.2.2.2.1 54 rfl rfl _).1 ?_
                refine x_iret rfl rfl ?_
                show jX m_X4_partOut 99 0 0 63 [(4, .int 0), (3, .int 0), (0, .ref 107), (1, .int a1), (2, .int a3)] [.int 0, .ref 98] _ 0 0 _
                refine x_sipush (v := 366) rfl ks_366 ?_
                refine y_imul (v := 0) rfl (by decide) ?_
                refine x_iloadn (x := a3) rfl rfl ?_
                refine x_inv (N := m_X0_turnTo) (As := [.int 0, .int a3]) (b := 98) (st := []) (d' := 98) (mc := 0) (ms := 0) (host := "") 0 rfl t_X0_turnTo ⟨Or.inl q_4_101, i_X0_turnTo.1, i_X0_turnTo.2⟩ ⟨by decide, rfl⟩ (congrArg Prod.fst (F.1 98 (0, 16) rfl rfl)) rfl (by decide) rfl rfl ⟨by decide, by decide⟩ (jC.of rfl k_X0_turnTo rfl ?_)
                show jX m_X0_turnTo 98 0 0 0 [(0, .ref 98), (1, .int 0), (2, .int a3)] [] _ 0 0 _
                refine x_aloadn (x := 98) rfl rfl ?_
                refine x_iloadn (x := 0) rfl rfl ?_
                refine x_iloadn (x := a3) rfl rfl ?_
                refine x_inv (N := m_X0_readLaws) (As := [.int 0, .int a3]) (b := 98) (st := []) (d' := 97) (mc := 0) (ms := 0) (host := "") 0 rfl t_X0_readLaws ⟨Or.inl q_0_65, i_X0_readLaws.1, i_X0_readLaws.2⟩ ⟨by decide, rfl⟩ (congrArg Prod.fst (F.1 98 (0, 16) rfl rfl)) rfl (by decide) rfl rfl ⟨by decide, by decide⟩ (jC.of rfl k_X0_readLaws rfl ?_)
                show jX m_X0_readLaws 97 0 0 0 [(0, .ref 98), (1, .int 0), (2, .int a3)] [] _ 0 0 _
                refine x_aloadn (x := 98) rfl rfl ?_
                refine x_iloadn (x := 0) rfl rfl ?_
                refine x_putI 0 10 rfl f_0_37 rfl (jfin_no TX0 RX0 16 rfl rfl) (congrArg Prod.fst (F.1 98 (0, 16) rfl rfl)) rfl ?_
                refine x_aloadn (x := 98) rfl rfl ?_
                refine x_iloadn (x := a3) rfl rfl ?_
                refine x_putI 0 11 rfl f_0_41 rfl (jfin_no TX0 RX0 16 rfl rfl) (congrArg Prod.fst (F.1 98 (0, 16) rfl rfl)) rfl ?_
                refine x_aloadn (x := 98) rfl rfl ?_
                refine x_getR (b := 101) 0 4 rfl f_0_18 rfl (congrArg Prod.fst (F.1 98 (0, 16) rfl rfl)) (F.2.1 12548 101 rfl rfl) ?_
                refine x_aloadn (x := 98) rfl rfl ?_
                refine y_getI (v := 0) 0 10 rfl f_0_37 rfl (congrArg Prod.fst (F.1 98 (0, 16) rfl rfl)) rfl ?_
                refine x_aloadn (x := 98) rfl rfl ?_
                refine y_getI (v := a3) 0 11 rfl f_0_41 rfl (congrArg Prod.fst (F.1 98 (0, 16) rfl rfl)) rfl ?_
                refine x_aloadn (x := 98) rfl rfl ?_
                refine x_getR (b := 32) 0 0 rfl f_0_57 rfl (congrArg Prod.fst (F.1 98 (0, 16) rfl rfl)) (F.2.1 12544 32 rfl rfl) ?_
                refine y_getI (v := 1) 1 19 rfl f_0_81 rfl (congrArg Prod.fst (F.1 32 (1, 20) rfl rfl)) (F.2.2.1 4115 1 rfl rfl) ?_
                refine x_inst (N := m_X11_isFresh) (As := [.ref 101, .int 0, .int a3, .int 1]) (st := []) (d' := 96) (mc := 0) (ms := 0) (host := "ParishChest") rfl t_X11_isFresh ⟨Or.inr q_0_84, s_X11_isFresh⟩ rfl (by decide) rfl rfl ⟨by decide, by decide⟩ (jC.of rfl k_X11_isFresh rfl ?_)
                show jX m_X11_isFresh 96 0 0 0 [(0, .ref 101), (1, .int 0), (2, .int a3), (3, .int 1)] [] _ 0 0 _
                refine x_aloadn (x := 101) rfl rfl ?_
                refine y_alen (N := 3) (v := 3) rfl (F.1 101 (100, 3) rfl rfl) (by decide) (by decide) ?_
                refine x_iconst (v := 3) rfl ki_3 ?_
                refine x_icge (tgt := 8) rfl rfl (br_t (by decide) ?_)
                refine x_aloadn (x := 101) rfl rfl ?_
                refine x_iconst (v := 0) rfl ki_0 ?_
                refine y_iald (v := 0) (N := 3) 0 rfl (F.1 101 (100, 3) rfl rfl) (jinb_of (by decide)) (by decide) (F.2.2.2.1 101 rfl rfl 0).1 ?_
                refine x_iloadn (x := 0) rfl rfl ?_
                refine x_icne (tgt := 33) rfl rfl (bn_f (by decide) ?_)
                refine x_aloadn (x := 101) rfl rfl ?_
                refine x_iconst (v := 1) rfl ki_1 ?_
                refine y_iald (v := 0) (N := 3) 1 rfl (F.1 101 (100, 3) rfl rfl) (jinb_of (by decide)) (by decide) (F.2.2.2.1 101 rfl rfl 1).1 ?_
                refine x_iloadn (x := a3) rfl rfl ?_
                refine x_icne (tgt := 33) rfl rfl (ti_ne (show (0 : Int32).toInt = 0 by decide) (show (a3 : Int32).toInt = a3.toInt from rfl) (bn_t c6 ?_))
                refine x_iconst (v := 0) rfl ki_0 ?_
                refine x_istore (ls' := [(4, .int 0), (0, .ref 101), (1, .int 0), (2, .int a3), (3, .int 1)]) rfl rfl rfl ?_
                refine x_aloadn (x := 101) rfl rfl ?_
                refine x_iconst (v := 0) rfl ki_0 ?_
                refine x_iloadn (x := 0) rfl rfl ?_
                refine y_iast (N := 3) 0 rfl (F.1 101 (100, 3) rfl rfl) rfl (jinb_of (by decide)) (by decide) ?_
                refine x_aloadn (x := 101) rfl rfl ?_
                refine x_iconst (v := 1) rfl ki_1 ?_
                refine x_iloadn (x := a3) rfl rfl ?_
                refine y_iast (N := 3) 1 rfl (F.1 101 (100, 3) rfl rfl) rfl (jinb_of (by decide)) (by decide) ?_
                refine x_aloadn (x := 101) rfl rfl ?_
                refine x_iconst (v := 2) rfl ki_2 ?_
                refine x_iloadn (x := 1) rfl rfl ?_
                refine y_iast (N := 3) 2 rfl (F.1 101 (100, 3) rfl rfl) rfl (jinb_of (by decide)) (by decide) ?_
                refine x_iload (x := 0) rfl rfl ?_
                refine x_zret rfl rfl (by first | decide | exact jp_01 _) ?_
                show jX m_X0_readLaws 97 0 0 32 [(0, .ref 98), (1, .int 0), (2, .int a3)] [.int 0] _ 0 0 _
                refine x_ifeq (tgt := 36) rfl rfl (br_t (by decide) ?_)
                refine x_bipush (v := 30) rfl kb_30 ?_
                refine x_aloadn (x := 98) rfl rfl ?_
                refine x_getR (b := 32) 0 0 rfl f_0_57 rfl (congrArg Prod.fst (F.1 98 (0, 16) rfl rfl)) (F.2.1 12544 32 rfl rfl) ?_
                refine y_getI (v := 0) 1 18 rfl f_0_72 rfl (congrArg Prod.fst (F.1 32 (1, 20) rfl rfl)) (F.2.2.1 4114 0 rfl rfl) ?_
                refine x_inst (N := m_J9_min_7cf53) (As := [.int 30, .int 0]) (st := []) (d' := 96) (mc := 0) (ms := 0) (host := "") rfl t_J9_min_7cf53 ⟨Or.inl q_0_88, s_J9_min_7cf53⟩ rfl (by decide) rfl rfl ⟨by decide, by decide⟩ (jC.of rfl k_J9_min_7cf53 rfl ?_)
                show jX m_J9_min_7cf53 96 0 0 0 [(0, .int 30), (1, .int 0)] [] _ 0 0 _
                refine x_iloadn (x := 30) rfl rfl ?_
                refine x_iloadn (x := 0) rfl rfl ?_
                refine x_icgt (tgt := 9) rfl rfl (br_t (by decide) ?_)
                refine x_iloadn (x := 0) rfl rfl ?_
                refine x_iret rfl rfl ?_
                show jX m_X0_readLaws 97 0 0 48 [(0, .ref 98), (1, .int 0), (2, .int a3)] [.int 0] _ 0 0 _
                refine x_istoren (ls' := [(3, .int 0), (0, .ref 98), (1, .int 0), (2, .int a3)]) rfl rfl rfl ?_
                refine x_iconst (v := 0) rfl ki_0 ?_
                refine x_istore (ls' := [(4, .int 0), (3, .int 0), (0, .ref 98), (1, .int 0), (2, .int a3)]) rfl rfl rfl ?_
                refine x_iload (x := 0) rfl rfl ?_
                refine x_iloadn (x := 0) rfl rfl ?_
                refine x_icge (tgt := 80) rfl rfl (br_t (by decide) ?_)
                refine x_iloadn (x := 0) rfl rfl ?_
                refine x_iconst (v := 1) rfl ki_1 ?_
                refine y_isub (v := (-1)) rfl (by decide) ?_
                refine x_istore (ls' := [(4, .int (-1)), (3, .int 0), (0, .ref 98), (1, .int 0), (2, .int a3)]) rfl rfl rfl ?_
                refine x_iload (x := (-1)) rfl rfl ?_
                refine x_iflt (tgt := 167) rfl rfl (br_t (by decide) ?_)
                refine x_vret rfl rfl ?_
                show jX m_X0_turnTo 98 0 0 6 [(0, .ref 98), (1, .int 0), (2, .int a3)] [] _ 0 0 _
                refine x_aloadn (x := 98) rfl rfl ?_
                refine x_iloadn (x := 0) rfl rfl ?_
                refine x_iloadn (x := a3) rfl rfl ?_
                refine x_inv (N := m_X0_readHouses) (As := [.int 0, .int a3]) (b := 98) (st := []) (d' := 97) (mc := 0) (ms := 0) (host := "") 0 rfl t_X0_readHouses ⟨Or.inl q_0_69, i_X0_readHouses.1, i_X0_readHouses.2⟩ ⟨by decide, rfl⟩ (congrArg Prod.fst (F.1 98 (0, 16) rfl rfl)) rfl (by decide) rfl rfl ⟨by decide, by decide⟩ (jC.of rfl k_X0_readHouses rfl ?_)
                show jX m_X0_readHouses 97 0 0 0 [(0, .ref 98), (1, .int 0), (2, .int a3)] [] _ 0 0 _
                refine x_aloadn (x := 98) rfl rfl ?_
                refine x_iloadn (x := 0) rfl rfl ?_
                refine x_putI 0 10 rfl f_0_37 rfl (jfin_no TX0 RX0 16 rfl rfl) (congrArg Prod.fst (F.1 98 (0, 16) rfl rfl)) rfl ?_
                refine x_aloadn (x := 98) rfl rfl ?_
                refine x_iloadn (x := a3) rfl rfl ?_
                refine x_putI 0 11 rfl f_0_41 rfl (jfin_no TX0 RX0 16 rfl rfl) (congrArg Prod.fst (F.1 98 (0, 16) rfl rfl)) rfl ?_
                refine x_aloadn (x := 98) rfl rfl ?_
                refine x_getR (b := 105) 0 8 rfl f_0_30 rfl (congrArg Prod.fst (F.1 98 (0, 16) rfl rfl)) (F.2.1 12552 105 rfl rfl) ?_
                refine x_aloadn (x := 98) rfl rfl ?_
                refine y_getI (v := 0) 0 10 rfl f_0_37 rfl (congrArg Prod.fst (F.1 98 (0, 16) rfl rfl)) rfl ?_
                refine x_aloadn (x := 98) rfl rfl ?_
                refine y_getI (v := a3) 0 11 rfl f_0_41 rfl (congrArg Prod.fst (F.1 98 (0, 16) rfl rfl)) rfl ?_
                refine x_aloadn (x := 98) rfl rfl ?_
                refine x_getR (b := 32) 0 0 rfl f_0_57 rfl (congrArg Prod.fst (F.1 98 (0, 16) rfl rfl)) (F.2.1 12544 32 rfl rfl) ?_
                refine y_getI (v := 1) 1 19 rfl f_0_81 rfl (congrArg Prod.fst (F.1 32 (1, 20) rfl rfl)) (F.2.2.1 4115 1 rfl rfl) ?_
                refine x_inst (N := m_X11_isFresh) (As := [.ref 105, .int 0, .int a3, .int 1]) (st := []) (d' := 96) (mc := 0) (ms := 0) (host := "ParishChest") rfl t_X11_isFresh ⟨Or.inr q_0_84, s_X11_isFresh⟩ rfl (by decide) rfl rfl ⟨by decide, by decide⟩ (jC.of rfl k_X11_isFresh rfl ?_)
                show jX m_X11_isFresh 96 0 0 0 [(0, .ref 105), (1, .int 0), (2, .int a3), (3, .int 1)] [] _ 0 0 _
                refine x_aloadn (x := 105) rfl rfl ?_
                refine y_alen (N := 3) (v := 3) rfl (F.1 105 (100, 3) rfl rfl) (by decide) (by decide) ?_
                refine x_iconst (v := 3) rfl ki_3 ?_
                refine x_icge (tgt := 8) rfl rfl (br_t (by decide) ?_)
                refine x_aloadn (x := 105) rfl rfl ?_
                refine x_iconst (v := 0) rfl ki_0 ?_
                refine y_iald (v := 0) (N := 3) 0 rfl (F.1 105 (100, 3) rfl rfl) (jinb_of (by decide)) (by decide) (F.2.2.2.1 105 rfl rfl 0).1 ?_
                refine x_iloadn (x := 0) rfl rfl ?_
                refine x_icne (tgt := 33) rfl rfl (bn_f (by decide) ?_)
                refine x_aloadn (x := 105) rfl rfl ?_
                refine x_iconst (v := 1) rfl ki_1 ?_
                refine y_iald (v := 0) (N := 3) 1 rfl (F.1 105 (100, 3) rfl rfl) (jinb_of (by decide)) (by decide) (F.2.2.2.1 105 rfl rfl 1).1 ?_
                refine x_iloadn (x := a3) rfl rfl ?_
                refine x_icne (tgt := 33) rfl rfl (ti_ne (show (0 : Int32).toInt = 0 by decide) (show (a3 : Int32).toInt = a3.toInt from rfl) (bn_t c6 ?_))
                refine x_iconst (v := 0) rfl ki_0 ?_
                refine x_istore (ls' := [(4, .int 0), (0, .ref 105), (1, .int 0), (2, .int a3), (3, .int 1)]) rfl rfl rfl ?_
                refine x_aloadn (x := 105) rfl rfl ?_
                refine x_iconst (v := 0) rfl ki_0 ?_
                refine x_iloadn (x := 0) rfl rfl ?_
                refine y_iast (N := 3) 0 rfl (F.1 105 (100, 3) rfl rfl) rfl (jinb_of (by decide)) (by decide) ?_
                refine x_aloadn (x := 105) rfl rfl ?_
                refine x_iconst (v := 1) rfl ki_1 ?_
                refine x_iloadn (x := a3) rfl rfl ?_
                refine y_iast (N := 3) 1 rfl (F.1 105 (100, 3) rfl rfl) rfl (jinb_of (by decide)) (by decide) ?_
                refine x_aloadn (x := 105) rfl rfl ?_
                refine x_iconst (v := 2) rfl ki_2 ?_
                refine x_iloadn (x := 1) rfl rfl ?_
                refine y_iast (N := 3) 2 rfl (F.1 105 (100, 3) rfl rfl) rfl (jinb_of (by decide)) (by decide) ?_
                refine x_iload (x := 0) rfl rfl ?_
                refine x_zret rfl rfl (by first | decide | exact jp_01 _) ?_
                show jX m_X0_readHouses 97 0 0 32 [(0, .ref 98), (1, .int 0), (2, .int a3)] [.int 0] _ 0 0 _
                refine x_ifeq (tgt := 36) rfl rfl (br_t (by decide) ?_)
                refine x_bipush (v := 40) rfl kb_40 ?_
                refine x_aloadn (x := 98) rfl rfl ?_
                refine x_getR (b := 32) 0 0 rfl f_0_57 rfl (congrArg Prod.fst (F.1 98 (0, 16) rfl rfl)) (F.2.1 12544 32 rfl rfl) ?_
                refine x_getR (b := 49) 1 8 rfl f_0_120 rfl (congrArg Prod.fst (F.1 32 (1, 20) rfl rfl)) (F.2.1 4104 49 rfl rfl) ?_
                refine y_getI (v := 0) 8 3 rfl f_0_124 rfl (congrArg Prod.fst (F.1 49 (8, 4) rfl rfl)) (F.2.2.1 6275 0 rfl rfl) ?_
                refine x_inst (N := m_J9_min_7cf53) (As := [.int 40, .int 0]) (st := []) (d' := 96) (mc := 0) (ms := 0) (host := "") rfl t_J9_min_7cf53 ⟨Or.inl q_0_88, s_J9_min_7cf53⟩ rfl (by decide) rfl rfl ⟨by decide, by decide⟩ (jC.of rfl k_J9_min_7cf53 rfl ?_)
                show jX m_J9_min_7cf53 96 0 0 0 [(0, .int 40), (1, .int 0)] [] _ 0 0 _
                refine x_iloadn (x := 40) rfl rfl ?_
                refine x_iloadn (x := 0) rfl rfl ?_
                refine x_icgt (tgt := 9) rfl rfl (br_t (by decide) ?_)
                refine x_iloadn (x := 0) rfl rfl ?_
                refine x_iret rfl rfl ?_
                show jX m_X0_readHouses 97 0 0 51 [(0, .ref 98), (1, .int 0), (2, .int a3)] [.int 0] _ 0 0 _
                refine x_istoren (ls' := [(3, .int 0), (0, .ref 98), (1, .int 0), (2, .int a3)]) rfl rfl rfl ?_
                refine x_aloadn (x := 98) rfl rfl ?_
                refine x_aloadn (x := 98) rfl rfl ?_
                refine x_getR (b := 32) 0 0 rfl f_0_57 rfl (congrArg Prod.fst (F.1 98 (0, 16) rfl rfl)) (F.2.1 12544 32 rfl rfl) ?_
                refine x_getR (b := 47) 1 7 rfl f_0_129 rfl (congrArg Prod.fst (F.1 32 (1, 20) rfl rfl)) (F.2.1 4103 47 rfl rfl) ?_
                refine x_iconst (v := 3) rfl ki_3 ?_
                refine x_aloadn (x := 98) rfl rfl ?_
                refine x_getR (b := 102) 0 5 rfl f_0_21 rfl (congrArg Prod.fst (F.1 98 (0, 16) rfl rfl)) (F.2.1 12549 102 rfl rfl) ?_
                refine x_iconst (v := 0) rfl ki_0 ?_
                refine x_inv (N := m_X0_readLatest) (As := [.ref 47, .int 3, .ref 102, .int 0]) (b := 98) (st := []) (d' := 96) (mc := 0) (ms := 0) (host := "") 0 rfl t_X0_readLatest ⟨Or.inl q_0_132, i_X0_readLatest.1, i_X0_readLatest.2⟩ ⟨by decide, rfl⟩ (congrArg Prod.fst (F.1 98 (0, 16) rfl rfl)) rfl (by decide) rfl rfl ⟨by decide, by decide⟩ (jC.of rfl k_X0_readLatest rfl ?_)
                show jX m_X0_readLatest 96 0 0 0 [(0, .ref 98), (1, .ref 47), (2, .int 3), (3, .ref 102), (4, .int 0)] [] _ 0 0 _
                refine x_iconst (v := 0) rfl ki_0 ?_
                refine x_istore (ls' := [(5, .int 0), (0, .ref 98), (1, .ref 47), (2, .int 3), (3, .ref 102), (4, .int 0)]) rfl rfl rfl ?_
                refine x_iload (x := 0) rfl rfl ?_
                refine x_bipush (v := 40) rfl kb_40 ?_
                refine x_icge (tgt := 52) rfl rfl (br_f (by decide) ?_)
                refine x_iload (x := 0) rfl rfl ?_
                refine x_aloadn (x := 98) rfl rfl ?_
                refine x_getR (b := 32) 0 0 rfl f_0_57 rfl (congrArg Prod.fst (F.1 98 (0, 16) rfl rfl)) (F.2.1 12544 32 rfl rfl) ?_
                refine x_getR (b := 49) 1 8 rfl f_0_120 rfl (congrArg Prod.fst (F.1 32 (1, 20) rfl rfl)) (F.2.1 4104 49 rfl rfl) ?_
                refine y_getI (v := 0) 8 3 rfl f_0_124 rfl (congrArg Prod.fst (F.1 49 (8, 4) rfl rfl)) (F.2.2.1 6275 0 rfl rfl) ?_
                refine x_icge (tgt := 52) rfl rfl (br_t (by decide) ?_)
                refine x_iconst (v := 0) rfl ki_0 ?_
                refine x_istore (ls' := [(5, .int 0), (0, .ref 98), (1, .ref 47), (2, .int 3), (3, .ref 102), (4, .int 0)]) rfl rfl rfl ?_
                refine x_iload (x := 0) rfl rfl ?_
                refine x_aloadn (x := 47) rfl rfl ?_
                refine y_getI (v := 0) 8 3 rfl f_0_124 rfl (congrArg Prod.fst (F.1 47 (8, 4) rfl rfl)) (F.2.2.1 6019 0 rfl rfl) ?_
                refine x_icge (tgt := 161) rfl rfl (br_t (by decide) ?_)
                refine x_vret rfl rfl ?_
                show jX m_X0_readHouses 97 0 0 69 [(3, .int 0), (0, .ref 98), (1, .int 0), (2, .int a3)] [] _ 0 0 _
                refine x_aloadn (x := 98) rfl rfl ?_
                refine x_aloadn (x := 98) rfl rfl ?_
                refine x_getR (b := 32) 0 0 rfl f_0_57 rfl (congrArg Prod.fst (F.1 98 (0, 16) rfl rfl)) (F.2.1 12544 32 rfl rfl) ?_
                refine x_getR (b := 51) 1 9 rfl f_0_136 rfl (congrArg Prod.fst (F.1 32 (1, 20) rfl rfl)) (F.2.1 4105 51 rfl rfl) ?_
                refine x_iconst (v := 3) rfl ki_3 ?_
                refine x_aloadn (x := 98) rfl rfl ?_
                refine x_getR (b := 103) 0 6 rfl f_0_24 rfl (congrArg Prod.fst (F.1 98 (0, 16) rfl rfl)) (F.2.1 12550 103 rfl rfl) ?_
                refine x_iconst (v := (-1)) rfl ki_m1 ?_
                refine x_inv (N := m_X0_readLatest) (As := [.ref 51, .int 3, .ref 103, .int (-1)]) (b := 98) (st := []) (d' := 96) (mc := 0) (ms := 0) (host := "") 0 rfl t_X0_readLatest ⟨Or.inl q_0_132, i_X0_readLatest.1, i_X0_readLatest.2⟩ ⟨by decide, rfl⟩ (congrArg Prod.fst (F.1 98 (0, 16) rfl rfl)) rfl (by decide) rfl rfl ⟨by decide, by decide⟩ (jC.of rfl k_X0_readLatest rfl ?_)
                show jX m_X0_readLatest 96 0 0 0 [(0, .ref 98), (1, .ref 51), (2, .int 3), (3, .ref 103), (4, .int (-1))] [] _ 0 0 _
                refine x_iconst (v := 0) rfl ki_0 ?_
                refine x_istore (ls' := [(5, .int 0), (0, .ref 98), (1, .ref 51), (2, .int 3), (3, .ref 103), (4, .int (-1))]) rfl rfl rfl ?_
                refine x_iload (x := 0) rfl rfl ?_
                refine x_bipush (v := 40) rfl kb_40 ?_
                refine x_icge (tgt := 52) rfl rfl (br_f (by decide) ?_)
                refine x_iload (x := 0) rfl rfl ?_
                refine x_aloadn (x := 98) rfl rfl ?_
                refine x_getR (b := 32) 0 0 rfl f_0_57 rfl (congrArg Prod.fst (F.1 98 (0, 16) rfl rfl)) (F.2.1 12544 32 rfl rfl) ?_
                refine x_getR (b := 49) 1 8 rfl f_0_120 rfl (congrArg Prod.fst (F.1 32 (1, 20) rfl rfl)) (F.2.1 4104 49 rfl rfl) ?_
                refine y_getI (v := 0) 8 3 rfl f_0_124 rfl (congrArg Prod.fst (F.1 49 (8, 4) rfl rfl)) (F.2.2.1 6275 0 rfl rfl) ?_
                refine x_icge (tgt := 52) rfl rfl (br_t (by decide) ?_)
                refine x_iconst (v := 0) rfl ki_0 ?_
                refine x_istore (ls' := [(5, .int 0), (0, .ref 98), (1, .ref 51), (2, .int 3), (3, .ref 103), (4, .int (-1))]) rfl rfl rfl ?_
                refine x_iload (x := 0) rfl rfl ?_
                refine x_aloadn (x := 51) rfl rfl ?_
                refine y_getI (v := 0) 8 3 rfl f_0_124 rfl (congrArg Prod.fst (F.1 51 (8, 4) rfl rfl)) (F.2.2.1 6531 0 rfl rfl) ?_
                refine x_icge (tgt := 161) rfl rfl (br_t (by decide) ?_)
                refine x_vret rfl rfl ?_
                show jX m_X0_readHouses 97 0 0 86 [(3, .int 0), (0, .ref 98), (1, .int 0), (2, .int a3)] [] _ 0 0 _
                refine x_iconst (v := 0) rfl ki_0 ?_
                refine x_istore (ls' := [(4, .int 0), (3, .int 0), (0, .ref 98), (1, .int 0), (2, .int a3)]) rfl rfl rfl ?_
                refine x_iload (x := 0) rfl rfl ?_
                refine x_iloadn (x := 0) rfl rfl ?_
                refine x_icge (tgt := 172) rfl rfl (br_t (by decide) ?_)
                refine x_vret rfl rfl ?_
                show jX m_X0_turnTo 98 0 0 12 [(0, .ref 98), (1, .int 0), (2, .int a3)] [] _ 0 0 _
                refine x_vret rfl rfl ?_
                show jX m_X4_partOut 99 0 0 71 [(4, .int 0), (3, .int 0), (0, .ref 107), (1, .int a1), (2, .int a3)] [] _ 0 0 _
                refine x_lconst (v := 0) rfl kl_0 ?_
                refine x_lstore (ls' := [(5, .long 0), (4, .int 0), (3, .int 0), (0, .ref 107), (1, .int a1), (2, .int a3)]) rfl rfl rfl ?_
                refine x_iconst (v := 0) rfl ki_0 ?_
                refine x_istore (ls' := [(7, .int 0), (5, .long 0), (4, .int 0), (3, .int 0), (0, .ref 107), (1, .int a1), (2, .int a3)]) rfl rfl rfl ?_
                refine x_iload (x := 0) rfl rfl ?_
                refine x_aloadn (x := 107) rfl rfl ?_
                refine x_inv (N := m_X4_houses) (As := []) (b := 107) (st := [.int 0]) (d' := 98) (mc := 0) (ms := 0) (host := "") 4 rfl t_X4_houses ⟨Or.inl q_4_107, i_X4_houses.1, i_X4_houses.2⟩ ⟨by decide, rfl⟩ (congrArg Prod.fst (F.1 107 (4, 18) rfl rfl)) rfl (by decide) rfl rfl ⟨by decide, by decide⟩ (jC.of rfl k_X4_houses rfl ?_)
                show jX m_X4_houses 98 0 0 0 [(0, .ref 107)] [] _ 0 0 _
                refine x_bipush (v := 40) rfl kb_40 ?_
                refine x_aloadn (x := 107) rfl rfl ?_
                refine x_getR (b := 32) 4 0 rfl f_4_59 rfl (congrArg Prod.fst (F.1 107 (4, 18) rfl rfl)) (F.2.1 13696 32 rfl rfl) ?_
                refine x_getR (b := 49) 1 8 rfl f_4_71 rfl (congrArg Prod.fst (F.1 32 (1, 20) rfl rfl)) (F.2.1 4104 49 rfl rfl) ?_
                refine y_getI (v := 0) 8 3 rfl f_4_77 rfl (congrArg Prod.fst (F.1 49 (8, 4) rfl rfl)) (F.2.2.1 6275 0 rfl rfl) ?_
                refine x_inst (N := m_J9_min_7cf53) (As := [.int 40, .int 0]) (st := []) (d' := 97) (mc := 0) (ms := 0) (host := "") rfl t_J9_min_7cf53 ⟨Or.inl q_4_82, s_J9_min_7cf53⟩ rfl (by decide) rfl rfl ⟨by decide, by decide⟩ (jC.of rfl k_J9_min_7cf53 rfl ?_)
                show jX m_J9_min_7cf53 97 0 0 0 [(0, .int 40), (1, .int 0)] [] _ 0 0 _
                refine x_iloadn (x := 40) rfl rfl ?_
                refine x_iloadn (x := 0) rfl rfl ?_
                refine x_icgt (tgt := 9) rfl rfl (br_t (by decide) ?_)
                refine x_iloadn (x := 0) rfl rfl ?_
                refine x_iret rfl rfl ?_
                show jX m_X4_houses 98 0 0 15 [(0, .ref 107)] [.int 0] _ 0 0 _
                refine x_iret rfl rfl ?_
                show jX m_X4_partOut 99 0 0 83 [(7, .int 0), (5, .long 0), (4, .int 0), (3, .int 0), (0, .ref 107), (1, .int a1), (2, .int a3)] [.int 0, .int 0] _ 0 0 _
                refine x_icge (tgt := 187) rfl rfl (br_t (by decide) ?_)
                refine x_aloadn (x := 107) rfl rfl ?_
                refine x_iload (x := 0) rfl rfl ?_
                refine x_lload (x := 0) rfl rfl ?_
                refine x_inv (N := m_X4_share) (As := [.int 0, .long 0]) (b := 107) (st := []) (d' := 98) (mc := 0) (ms := 0) (host := "") 4 rfl t_X4_share ⟨Or.inl q_4_123, i_X4_share.1, i_X4_share.2⟩ ⟨by decide, rfl⟩ (congrArg Prod.fst (F.1 107 (4, 18) rfl rfl)) rfl (by decide) rfl rfl ⟨by decide, by decide⟩ (jC.of rfl k_X4_share rfl ?_)
                show jX m_X4_share 98 0 0 0 [(0, .ref 107), (1, .int 0), (2, .long 0)] [] _ 0 0 _
                refine x_lloadn (x := 0) rfl rfl ?_
                refine x_lconst (v := 0) rfl kl_0 ?_
                refine y_lcmp (v := 0) rfl (by decide) ?_
                refine x_ifne (tgt := 10) rfl rfl (bn_f (by decide) ?_)
                refine x_lconst (v := 0) rfl kl_0 ?_
                refine x_goto (tgt := 12) rfl rfl ?_
                refine x_lstore (ls' := [(4, .long 0), (0, .ref 107), (1, .int 0), (2, .long 0)]) rfl rfl rfl ?_
                refine x_iconst (v := 0) rfl ki_0 ?_
                refine x_istore (ls' := [(6, .int 0), (4, .long 0), (0, .ref 107), (1, .int 0), (2, .long 0)]) rfl rfl rfl ?_
                refine x_iload (x := 0) rfl rfl ?_
                refine x_aloadn (x := 107) rfl rfl ?_
                refine x_inv (N := m_X4_houses) (As := []) (b := 107) (st := [.int 0]) (d' := 97) (mc := 0) (ms := 0) (host := "") 4 rfl t_X4_houses ⟨Or.inl q_4_107, i_X4_houses.1, i_X4_houses.2⟩ ⟨by decide, rfl⟩ (congrArg Prod.fst (F.1 107 (4, 18) rfl rfl)) rfl (by decide) rfl rfl ⟨by decide, by decide⟩ (jC.of rfl k_X4_houses rfl ?_)
                show jX m_X4_houses 97 0 0 0 [(0, .ref 107)] [] _ 0 0 _
                refine x_bipush (v := 40) rfl kb_40 ?_
                refine x_aloadn (x := 107) rfl rfl ?_
                refine x_getR (b := 32) 4 0 rfl f_4_59 rfl (congrArg Prod.fst (F.1 107 (4, 18) rfl rfl)) (F.2.1 13696 32 rfl rfl) ?_
                refine x_getR (b := 49) 1 8 rfl f_4_71 rfl (congrArg Prod.fst (F.1 32 (1, 20) rfl rfl)) (F.2.1 4104 49 rfl rfl) ?_
                refine y_getI (v := 0) 8 3 rfl f_4_77 rfl (congrArg Prod.fst (F.1 49 (8, 4) rfl rfl)) (F.2.2.1 6275 0 rfl rfl) ?_
                refine x_inst (N := m_J9_min_7cf53) (As := [.int 40, .int 0]) (st := []) (d' := 96) (mc := 0) (ms := 0) (host := "") rfl t_J9_min_7cf53 ⟨Or.inl q_4_82, s_J9_min_7cf53⟩ rfl (by decide) rfl rfl ⟨by decide, by decide⟩ (jC.of rfl k_J9_min_7cf53 rfl ?_)
                show jX m_J9_min_7cf53 96 0 0 0 [(0, .int 40), (1, .int 0)] [] _ 0 0 _
                refine x_iloadn (x := 40) rfl rfl ?_
                refine x_iloadn (x := 0) rfl rfl ?_
                refine x_icgt (tgt := 9) rfl rfl (br_t (by decide) ?_)
                refine x_iloadn (x := 0) rfl rfl ?_
                refine x_iret rfl rfl ?_
                show jX m_X4_houses 97 0 0 15 [(0, .ref 107)] [.int 0] _ 0 0 _
                refine x_iret rfl rfl ?_
                show jX m_X4_share 98 0 0 23 [(6, .int 0), (4, .long 0), (0, .ref 107), (1, .int 0), (2, .long 0)] [.int 0, .int 0] _ 0 0 _
                refine x_icge (tgt := 113) rfl rfl (br_t (by decide) ?_)
                refine x_iconst (v := 0) rfl ki_0 ?_
                refine x_istore (ls' := [(6, .int 0), (4, .long 0), (0, .ref 107), (1, .int 0), (2, .long 0)]) rfl rfl rfl ?_
                refine x_iload (x := 0) rfl rfl ?_
                refine x_bipush (v := 40) rfl kb_40 ?_
                refine x_icge (tgt := 175) rfl rfl (br_f (by decide) ?_)
                refine x_lload (x := 0) rfl rfl ?_
                refine x_lconst (v := 0) rfl kl_0 ?_
                refine y_lcmp (v := 0) rfl (by decide) ?_
                refine x_ifle (tgt := 175) rfl rfl (br_t (by decide) ?_)
                refine x_vret rfl rfl ?_
                show jX m_X4_partOut 99 0 0 195 [(7, .int 0), (5, .long 0), (4, .int 0), (3, .int 0), (0, .ref 107), (1, .int a1), (2, .int a3)] [] _ 0 0 _
                refine x_iconst (v := 0) rfl ki_0 ?_
                refine x_istore (ls' := [(7, .int 0), (5, .long 0), (4, .int 0), (3, .int 0), (0, .ref 107), (1, .int a1), (2, .int a3)]) rfl rfl rfl ?_
                refine x_iload (x := 0) rfl rfl ?_
                refine x_aloadn (x := 107) rfl rfl ?_
                refine x_inv (N := m_X4_houses) (As := []) (b := 107) (st := [.int 0]) (d' := 98) (mc := 0) (ms := 0) (host := "") 4 rfl t_X4_houses ⟨Or.inl q_4_107, i_X4_houses.1, i_X4_houses.2⟩ ⟨by decide, rfl⟩ (congrArg Prod.fst (F.1 107 (4, 18) rfl rfl)) rfl (by decide) rfl rfl ⟨by decide, by decide⟩ (jC.of rfl k_X4_houses rfl ?_)
                show jX m_X4_houses 98 0 0 0 [(0, .ref 107)] [] _ 0 0 _
                refine x_bipush (v := 40) rfl kb_40 ?_
                refine x_aloadn (x := 107) rfl rfl ?_
                refine x_getR (b := 32) 4 0 rfl f_4_59 rfl (congrArg Prod.fst (F.1 107 (4, 18) rfl rfl)) (F.2.1 13696 32 rfl rfl) ?_
                refine x_getR (b := 49) 1 8 rfl f_4_71 rfl (congrArg Prod.fst (F.1 32 (1, 20) rfl rfl)) (F.2.1 4104 49 rfl rfl) ?_
                refine y_getI (v := 0) 8 3 rfl f_4_77 rfl (congrArg Prod.fst (F.1 49 (8, 4) rfl rfl)) (F.2.2.1 6275 0 rfl rfl) ?_
                refine x_inst (N := m_J9_min_7cf53) (As := [.int 40, .int 0]) (st := []) (d' := 97) (mc := 0) (ms := 0) (host := "") rfl t_J9_min_7cf53 ⟨Or.inl q_4_82, s_J9_min_7cf53⟩ rfl (by decide) rfl rfl ⟨by decide, by decide⟩ (jC.of rfl k_J9_min_7cf53 rfl ?_)
                show jX m_J9_min_7cf53 97 0 0 0 [(0, .int 40), (1, .int 0)] [] _ 0 0 _
                refine x_iloadn (x := 40) rfl rfl ?_
                refine x_iloadn (x := 0) rfl rfl ?_
                refine x_icgt (tgt := 9) rfl rfl (br_t (by decide) ?_)
                refine x_iloadn (x := 0) rfl rfl ?_
                refine x_iret rfl rfl ?_
                show jX m_X4_houses 98 0 0 15 [(0, .ref 107)] [.int 0] _ 0 0 _
                refine x_iret rfl rfl ?_
                show jX m_X4_partOut 99 0 0 204 [(7, .int 0), (5, .long 0), (4, .int 0), (3, .int 0), (0, .ref 107), (1, .int a1), (2, .int a3)] [.int 0, .int 0] _ 0 0 _
                refine x_icge (tgt := 275) rfl rfl (br_t (by decide) ?_)
                refine x_vret rfl rfl ?_
                show jX m_X11_owe 100 0 0 54 [(0, .ref 31), (1, .int a1), (2, .int a2), (3, .int a3)] [] _ 0 0 _
                refine x_iloadn (x := a2) rfl rfl ?_
                refine x_iconst (v := (-1)) rfl ki_m1 ?_
                refine x_icne (tgt := 69) rfl rfl (ti_ne (show (a2 : Int32).toInt = a2.toInt from rfl) (show ((-1) : Int32).toInt = (-1) by decide) (bn_f c5 ?_))
                refine x_aloadn (x := 31) rfl rfl ?_
                refine x_getR (b := 107) 11 8 rfl f_11_75 rfl (congrArg Prod.fst (F.1 31 (11, 13) rfl rfl)) (F.2.1 3976 107 rfl rfl) ?_
                refine x_inv (N := m_X4_owedByAll) (As := []) (b := 107) (st := []) (d' := 99) (mc := 0) (ms := 0) (host := "") 4 rfl t_X4_owedByAll ⟨Or.inl q_11_446, i_X4_owedByAll.1, i_X4_owedByAll.2⟩ ⟨by decide, rfl⟩ (congrArg Prod.fst (F.1 107 (4, 18) rfl rfl)) rfl (by decide) rfl rfl ⟨by decide, by decide⟩ (jC.of rfl k_X4_owedByAll rfl ?_)
                show jX m_X4_owedByAll 99 0 0 0 [(0, .ref 107)] [] _ 0 0 _
                refine x_iconst (v := 0) rfl ki_0 ?_
                refine x_istoren (ls' := [(1, .int 0), (0, .ref 107)]) rfl rfl rfl ?_
                refine x_iconst (v := 0) rfl ki_0 ?_
                refine x_istoren (ls' := [(2, .int 0), (1, .int 0), (0, .ref 107)]) rfl rfl rfl ?_
                refine x_iloadn (x := 0) rfl rfl ?_
                refine x_aloadn (x := 107) rfl rfl ?_
                refine x_inv (N := m_X4_houses) (As := []) (b := 107) (st := [.int 0]) (d' := 98) (mc := 0) (ms := 0) (host := "") 4 rfl t_X4_houses ⟨Or.inl q_4_107, i_X4_houses.1, i_X4_houses.2⟩ ⟨by decide, rfl⟩ (congrArg Prod.fst (F.1 107 (4, 18) rfl rfl)) rfl (by decide) rfl rfl ⟨by decide, by decide⟩ (jC.of rfl k_X4_houses rfl ?_)
                show jX m_X4_houses 98 0 0 0 [(0, .ref 107)] [] _ 0 0 _
                refine x_bipush (v := 40) rfl kb_40 ?_
                refine x_aloadn (x := 107) rfl rfl ?_
                refine x_getR (b := 32) 4 0 rfl f_4_59 rfl (congrArg Prod.fst (F.1 107 (4, 18) rfl rfl)) (F.2.1 13696 32 rfl rfl) ?_
                refine x_getR (b := 49) 1 8 rfl f_4_71 rfl (congrArg Prod.fst (F.1 32 (1, 20) rfl rfl)) (F.2.1 4104 49 rfl rfl) ?_
                refine y_getI (v := 0) 8 3 rfl f_4_77 rfl (congrArg Prod.fst (F.1 49 (8, 4) rfl rfl)) (F.2.2.1 6275 0 rfl rfl) ?_
                refine x_inst (N := m_J9_min_7cf53) (As := [.int 40, .int 0]) (st := []) (d' := 97) (mc := 0) (ms := 0) (host := "") rfl t_J9_min_7cf53 ⟨Or.inl q_4_82, s_J9_min_7cf53⟩ rfl (by decide) rfl rfl ⟨by decide, by decide⟩ (jC.of rfl k_J9_min_7cf53 rfl ?_)
                show jX m_J9_min_7cf53 97 0 0 0 [(0, .int 40), (1, .int 0)] [] _ 0 0 _
                refine x_iloadn (x := 40) rfl rfl ?_
                refine x_iloadn (x := 0) rfl rfl ?_
                refine x_icgt (tgt := 9) rfl rfl (br_t (by decide) ?_)
                refine x_iloadn (x := 0) rfl rfl ?_
                refine x_iret rfl rfl ?_
                show jX m_X4_houses 98 0 0 15 [(0, .ref 107)] [.int 0] _ 0 0 _
                refine x_iret rfl rfl ?_
                show jX m_X4_owedByAll 99 0 0 9 [(2, .int 0), (1, .int 0), (0, .ref 107)] [.int 0, .int 0] _ 0 0 _
                refine x_icge (tgt := 27) rfl rfl (br_t (by decide) ?_)
                refine x_iloadn (x := 0) rfl rfl ?_
                refine x_iret rfl rfl ?_
                show jX m_X11_owe 100 0 0 66 [(0, .ref 31), (1, .int a1), (2, .int a2), (3, .int a3)] [.int 0] _ 0 0 _
                refine x_goto (tgt := 78) rfl rfl ?_
                refine x_iret rfl rfl ?_
                exact jqe (show sp_owe a1 a2 a3 = 0 by unfold sp_owe; (repeat' split) <;> first | rfl | (exfalso; omega)) (hQ _ (by repeat (first | exact FM | refine jFb_si rfl ?_ | refine jFb_sl rfl ?_ | refine jFb_ci rfl ?_ | refine jFb_cl rfl ?_ | refine jFb_sr rfl ?_)) (by repeat (first | exact O | refine jOl_si rfl ?_ | refine jOl_sl rfl ?_ | refine jOl_ci rfl ?_ | refine jOl_cl rfl ?_ | refine jOl_sr rfl ?_)))
              ·
                refine x_aloadn (x := 111) rfl rfl ?_
                refine x_iconst (v := 1) rfl ki_1 ?_
                refine y_iald (v := 0) (N := 3) 1 rfl (F.1 111 (100, 3) rfl rfl) (jinb_of (by decide)) (by decide) (F.2.2.2.1 111 rfl rfl 1).1 ?_
                refine x_iloadn (x := a3) rfl rfl ?_
                refine x_icne (tgt := 33) rfl rfl (ti_ne (show (0 : Int32).toInt = 0 by decide) (show (a3 : Int32).toInt = a3.toInt from rfl) (bn_t c6 ?_))
                refine x_iconst (v := 0) rfl ki_0 ?_
                refine x_istore (ls' := [(4, .int 0), (0, .ref 111), (1, .int a1), (2, .int a3), (3, .int 1)]) rfl rfl rfl ?_
                refine x_aloadn (x := 111) rfl rfl ?_
                refine x_iconst (v := 0) rfl ki_0 ?_
                refine x_iloadn (x := a1) rfl rfl ?_
                refine y_iast (N := 3) 0 rfl (F.1 111 (100, 3) rfl rfl) rfl (jinb_of (by decide)) (by decide) ?_
                refine x_aloadn (x := 111) rfl rfl ?_
                refine x_iconst (v := 1) rfl ki_1 ?_
                refine x_iloadn (x := a3) rfl rfl ?_
                refine y_iast (N := 3) 1 rfl (F.1 111 (100, 3) rfl rfl) rfl (jinb_of (by decide)) (by decide) ?_
                refine x_aloadn (x := 111) rfl rfl ?_
                refine x_iconst (v := 2) rfl ki_2 ?_
                refine x_iloadn (x := 1) rfl rfl ?_
                refine y_iast (N := 3) 2 rfl (F.1 111 (100, 3) rfl rfl) rfl (jinb_of (by decide)) (by decide) ?_
                refine x_iload (x := 0) rfl rfl ?_
                refine x_zret rfl rfl (by first | decide | exact jp_01 _) ?_
                show jX m_X4_partOut 99 0 0 16 [(0, .ref 107), (1, .int a1), (2, .int a3)] [.int 0] _ 0 0 _
                refine x_ifeq (tgt := 20) rfl rfl (br_t (by decide) ?_)
                refine x_aloadn (x := 107) rfl rfl ?_
                refine x_getR (b := 32) 4 0 rfl f_4_59 rfl (congrArg Prod.fst (F.1 107 (4, 18) rfl rfl)) (F.2.1 13696 32 rfl rfl) ?_
                refine x_getR (b := 53) 1 10 rfl f_4_95 rfl (congrArg Prod.fst (F.1 32 (1, 20) rfl rfl)) (F.2.1 4106 53 rfl rfl) ?_
                refine x_iloadn (x := a1) rfl rfl ?_
                refine x_iconst (v := 2) rfl ki_2 ?_
                refine x_inv (N := m_X8_at) (As := [.int a1, .int 2]) (b := 53) (st := []) (d' := 98) (mc := 0) (ms := 0) (host := "") 8 rfl t_X8_at ⟨Or.inl q_4_98, i_X8_at.1, i_X8_at.2⟩ ⟨by decide, rfl⟩ (congrArg Prod.fst (F.1 53 (8, 4) rfl rfl)) rfl (by decide) rfl rfl ⟨by decide, by decide⟩ (jC.of rfl k_X8_at rfl ?_)
                show jX m_X8_at 98 0 0 0 [(0, .ref 53), (1, .int a1), (2, .int 2)] [] _ 0 0 _
                refine x_iloadn (x := a1) rfl rfl ?_
                refine x_iflt (tgt := 24) rfl rfl (ti_lt (show (a1 : Int32).toInt = a1.toInt from rfl) (show (0 : Int32).toInt = 0 by decide) (br_f c2 ?_))
                refine x_iloadn (x := a1) rfl rfl ?_
                refine x_aloadn (x := 53) rfl rfl ?_
                refine y_getI (v := 0) 8 3 rfl f_8_7 rfl (congrArg Prod.fst (F.1 53 (8, 4) rfl rfl)) (F.2.2.1 6787 0 rfl rfl) ?_
                refine x_icge (tgt := 24) rfl rfl (ti_ge (show (a1 : Int32).toInt = a1.toInt from rfl) (show (0 : Int32).toInt = 0 by decide) (br_f c3 ?_))
                refine x_iloadn (x := 2) rfl rfl ?_
                refine x_iflt (tgt := 24) rfl rfl (br_f (by decide) ?_)
                refine x_iloadn (x := 2) rfl rfl ?_
                refine x_aloadn (x := 53) rfl rfl ?_
                refine y_getI (v := 4) 8 0 rfl f_8_19 rfl (congrArg Prod.fst (F.1 53 (8, 4) rfl rfl)) (F.2.2.1 6784 4 rfl rfl) ?_
                refine x_iclt (tgt := 26) rfl rfl (br_t (by decide) ?_)
                refine x_aloadn (x := 53) rfl rfl ?_
                refine x_getR (b := 54) 8 2 rfl f_8_25 rfl (congrArg Prod.fst (F.1 53 (8, 4) rfl rfl)) (F.2.1 6786 54 rfl rfl) ?_
                refine x_iloadn (x := a1) rfl rfl ?_
                refine x_aloadn (x := 53) rfl rfl ?_
                refine y_getI (v := 4) 8 0 rfl f_8_19 rfl (congrArg Prod.fst (F.1 53 (8, 4) rfl rfl)) (F.2.2.1 6784 4 rfl rfl) ?_
                refine x_imul rfl ?_
                refine x_iloadn (x := 2) rfl rfl ?_
                refine x_iadd rfl ?_
                refine y_iald (v := 0) (N := 160) ((a1 * 4) + 2).toNatClampNeg rfl (F.1 54 (100, 160) rfl rfl) (vpi (by omega)) rfl (F.2.2.2.1 54 rfl rfl _).1 ?_
                refine x_iret rfl rfl ?_
                show jX m_X4_partOut 99 0 0 32 [(0, .ref 107), (1, .int a1), (2, .int a3)] [.int 0] _ 0 0 _
                refine x_istoren (ls' := [(3, .int 0), (0, .ref 107), (1, .int a1), (2, .int a3)]) rfl rfl rfl ?_
                refine x_aloadn (x := 107) rfl rfl ?_
                refine x_getR (b := 32) 4 0 rfl f_4_59 rfl (congrArg Prod.fst (F.1 107 (4, 18) rfl rfl)) (F.2.1 13696 32 rfl rfl) ?_
                refine x_getR (b := 53) 1 10 rfl f_4_95 rfl (congrArg Prod.fst (F.1 32 (1, 20) rfl rfl)) (F.2.1 4106 53 rfl rfl) ?_
                refine x_iloadn (x := a1) rfl rfl ?_
                refine x_iconst (v := 3) rfl ki_3 ?_
                refine x_inv (N := m_X8_at) (As := [.int a1, .int 3]) (b := 53) (st := []) (d' := 98) (mc := 0) (ms := 0) (host := "") 8 rfl t_X8_at ⟨Or.inl q_4_98, i_X8_at.1, i_X8_at.2⟩ ⟨by decide, rfl⟩ (congrArg Prod.fst (F.1 53 (8, 4) rfl rfl)) rfl (by decide) rfl rfl ⟨by decide, by decide⟩ (jC.of rfl k_X8_at rfl ?_)
                show jX m_X8_at 98 0 0 0 [(0, .ref 53), (1, .int a1), (2, .int 3)] [] _ 0 0 _
                refine x_iloadn (x := a1) rfl rfl ?_
                refine x_iflt (tgt := 24) rfl rfl (ti_lt (show (a1 : Int32).toInt = a1.toInt from rfl) (show (0 : Int32).toInt = 0 by decide) (br_f c2 ?_))
                refine x_iloadn (x := a1) rfl rfl ?_
                refine x_aloadn (x := 53) rfl rfl ?_
                refine y_getI (v := 0) 8 3 rfl f_8_7 rfl (congrArg Prod.fst (F.1 53 (8, 4) rfl rfl)) (F.2.2.1 6787 0 rfl rfl) ?_
                refine x_icge (tgt := 24) rfl rfl (ti_ge (show (a1 : Int32).toInt = a1.toInt from rfl) (show (0 : Int32).toInt = 0 by decide) (br_f c3 ?_))
                refine x_iloadn (x := 3) rfl rfl ?_
                refine x_iflt (tgt := 24) rfl rfl (br_f (by decide) ?_)
                refine x_iloadn (x := 3) rfl rfl ?_
                refine x_aloadn (x := 53) rfl rfl ?_
                refine y_getI (v := 4) 8 0 rfl f_8_19 rfl (congrArg Prod.fst (F.1 53 (8, 4) rfl rfl)) (F.2.2.1 6784 4 rfl rfl) ?_
                refine x_iclt (tgt := 26) rfl rfl (br_t (by decide) ?_)
                refine x_aloadn (x := 53) rfl rfl ?_
                refine x_getR (b := 54) 8 2 rfl f_8_25 rfl (congrArg Prod.fst (F.1 53 (8, 4) rfl rfl)) (F.2.1 6786 54 rfl rfl) ?_
                refine x_iloadn (x := a1) rfl rfl ?_
                refine x_aloadn (x := 53) rfl rfl ?_
                refine y_getI (v := 4) 8 0 rfl f_8_19 rfl (congrArg Prod.fst (F.1 53 (8, 4) rfl rfl)) (F.2.2.1 6784 4 rfl rfl) ?_
                refine x_imul rfl ?_
                refine x_iloadn (x := 3) rfl rfl ?_
                refine x_iadd rfl ?_
                refine y_iald (v := 0) (N := 160) ((a1 * 4) + 3).toNatClampNeg rfl (F.1 54 (100, 160) rfl rfl) (vpi (by omega)) rfl (F.2.2.2.1 54 rfl rfl _).1 ?_
                refine x_iret rfl rfl ?_
                show jX m_X4_partOut 99 0 0 45 [(3, .int 0), (0, .ref 107), (1, .int a1), (2, .int a3)] [.int 0] _ 0 0 _
                refine x_istore (ls' := [(4, .int 0), (3, .int 0), (0, .ref 107), (1, .int a1), (2, .int a3)]) rfl rfl rfl ?_
                refine x_aloadn (x := 107) rfl rfl ?_
                refine x_getR (b := 98) 4 2 rfl f_4_67 rfl (congrArg Prod.fst (F.1 107 (4, 18) rfl rfl)) (F.2.1 13698 98 rfl rfl) ?_
                refine x_aloadn (x := 107) rfl rfl ?_
                refine x_getR (b := 32) 4 0 rfl f_4_59 rfl (congrArg Prod.fst (F.1 107 (4, 18) rfl rfl)) (F.2.1 13696 32 rfl rfl) ?_
                refine x_getR (b := 53) 1 10 rfl f_4_95 rfl (congrArg Prod.fst (F.1 32 (1, 20) rfl rfl)) (F.2.1 4106 53 rfl rfl) ?_
                refine x_iloadn (x := a1) rfl rfl ?_
                refine x_iconst (v := 1) rfl ki_1 ?_
                refine x_inv (N := m_X8_at) (As := [.int a1, .int 1]) (b := 53) (st := [.ref 98]) (d' := 98) (mc := 0) (ms := 0) (host := "") 8 rfl t_X8_at ⟨Or.inl q_4_98, i_X8_at.1, i_X8_at.2⟩ ⟨by decide, rfl⟩ (congrArg Prod.fst (F.1 53 (8, 4) rfl rfl)) rfl (by decide) rfl rfl ⟨by decide, by decide⟩ (jC.of rfl k_X8_at rfl ?_)
                show jX m_X8_at 98 0 0 0 [(0, .ref 53), (1, .int a1), (2, .int 1)] [] _ 0 0 _
                refine x_iloadn (x := a1) rfl rfl ?_
                refine x_iflt (tgt := 24) rfl rfl (ti_lt (show (a1 : Int32).toInt = a1.toInt from rfl) (show (0 : Int32).toInt = 0 by decide) (br_f c2 ?_))
                refine x_iloadn (x := a1) rfl rfl ?_
                refine x_aloadn (x := 53) rfl rfl ?_
                refine y_getI (v := 0) 8 3 rfl f_8_7 rfl (congrArg Prod.fst (F.1 53 (8, 4) rfl rfl)) (F.2.2.1 6787 0 rfl rfl) ?_
                refine x_icge (tgt := 24) rfl rfl (ti_ge (show (a1 : Int32).toInt = a1.toInt from rfl) (show (0 : Int32).toInt = 0 by decide) (br_f c3 ?_))
                refine x_iloadn (x := 1) rfl rfl ?_
                refine x_iflt (tgt := 24) rfl rfl (br_f (by decide) ?_)
                refine x_iloadn (x := 1) rfl rfl ?_
                refine x_aloadn (x := 53) rfl rfl ?_
                refine y_getI (v := 4) 8 0 rfl f_8_19 rfl (congrArg Prod.fst (F.1 53 (8, 4) rfl rfl)) (F.2.2.1 6784 4 rfl rfl) ?_
                refine x_iclt (tgt := 26) rfl rfl (br_t (by decide) ?_)
                refine x_aloadn (x := 53) rfl rfl ?_
                refine x_getR (b := 54) 8 2 rfl f_8_25 rfl (congrArg Prod.fst (F.1 53 (8, 4) rfl rfl)) (F.2.1 6786 54 rfl rfl) ?_
                refine x_iloadn (x := a1) rfl rfl ?_
                refine x_aloadn (x := 53) rfl rfl ?_
                refine y_getI (v := 4) 8 0 rfl f_8_19 rfl (congrArg Prod.fst (F.1 53 (8, 4) rfl rfl)) (F.2.2.1 6784 4 rfl rfl) ?_
                refine x_imul rfl ?_
                refine x_iloadn (x := 1) rfl rfl ?_
                refine x_iadd rfl ?_
                refine y_iald (v := 0) (N := 160) ((a1 * 4) + 1).toNatClampNeg rfl (F.1 54 (100, 160) rfl rfl) (vpi (by omega)) rfl (F.2.2.2.1 54 rfl rfl _).1 ?_
                refine x_iret rfl rfl ?_
                show jX m_X4_partOut 99 0 0 63 [(4, .int 0), (3, .int 0), (0, .ref 107), (1, .int a1), (2, .int a3)] [.int 0, .ref 98] _ 0 0 _
                refine x_sipush (v := 366) rfl ks_366 ?_
                refine y_imul (v := 0) rfl (by decide) ?_
                refine x_iloadn (x := a3) rfl rfl ?_
                refine x_inv (N := m_X0_turnTo) (As := [.int 0, .int a3]) (b := 98) (st := []) (d' := 98) (mc := 0) (ms := 0) (host := "") 0 rfl t_X0_turnTo ⟨Or.inl q_4_101, i_X0_turnTo.1, i_X0_turnTo.2⟩ ⟨by decide, rfl⟩ (congrArg Prod.fst (F.1 98 (0, 16) rfl rfl)) rfl (by decide) rfl rfl ⟨by decide, by decide⟩ (jC.of rfl k_X0_turnTo rfl ?_)
                show jX m_X0_turnTo 98 0 0 0 [(0, .ref 98), (1, .int 0), (2, .int a3)] [] _ 0 0 _
                refine x_aloadn (x := 98) rfl rfl ?_
                refine x_iloadn (x := 0) rfl rfl ?_
                refine x_iloadn (x := a3) rfl rfl ?_
                refine x_inv (N := m_X0_readLaws) (As := [.int 0, .int a3]) (b := 98) (st := []) (d' := 97) (mc := 0) (ms := 0) (host := "") 0 rfl t_X0_readLaws ⟨Or.inl q_0_65, i_X0_readLaws.1, i_X0_readLaws.2⟩ ⟨by decide, rfl⟩ (congrArg Prod.fst (F.1 98 (0, 16) rfl rfl)) rfl (by decide) rfl rfl ⟨by decide, by decide⟩ (jC.of rfl k_X0_readLaws rfl ?_)
                show jX m_X0_readLaws 97 0 0 0 [(0, .ref 98), (1, .int 0), (2, .int a3)] [] _ 0 0 _
                refine x_aloadn (x := 98) rfl rfl ?_
                refine x_iloadn (x := 0) rfl rfl ?_
                refine x_putI 0 10 rfl f_0_37 rfl (jfin_no TX0 RX0 16 rfl rfl) (congrArg Prod.fst (F.1 98 (0, 16) rfl rfl)) rfl ?_
                refine x_aloadn (x := 98) rfl rfl ?_
                refine x_iloadn (x := a3) rfl rfl ?_
                refine x_putI 0 11 rfl f_0_41 rfl (jfin_no TX0 RX0 16 rfl rfl) (congrArg Prod.fst (F.1 98 (0, 16) rfl rfl)) rfl ?_
                refine x_aloadn (x := 98) rfl rfl ?_
                refine x_getR (b := 101) 0 4 rfl f_0_18 rfl (congrArg Prod.fst (F.1 98 (0, 16) rfl rfl)) (F.2.1 12548 101 rfl rfl) ?_
                refine x_aloadn (x := 98) rfl rfl ?_
                refine y_getI (v := 0) 0 10 rfl f_0_37 rfl (congrArg Prod.fst (F.1 98 (0, 16) rfl rfl)) rfl ?_
                refine x_aloadn (x := 98) rfl rfl ?_
                refine y_getI (v := a3) 0 11 rfl f_0_41 rfl (congrArg Prod.fst (F.1 98 (0, 16) rfl rfl)) rfl ?_
                refine x_aloadn (x := 98) rfl rfl ?_
                refine x_getR (b := 32) 0 0 rfl f_0_57 rfl (congrArg Prod.fst (F.1 98 (0, 16) rfl rfl)) (F.2.1 12544 32 rfl rfl) ?_
                refine y_getI (v := 1) 1 19 rfl f_0_81 rfl (congrArg Prod.fst (F.1 32 (1, 20) rfl rfl)) (F.2.2.1 4115 1 rfl rfl) ?_
                refine x_inst (N := m_X11_isFresh) (As := [.ref 101, .int 0, .int a3, .int 1]) (st := []) (d' := 96) (mc := 0) (ms := 0) (host := "ParishChest") rfl t_X11_isFresh ⟨Or.inr q_0_84, s_X11_isFresh⟩ rfl (by decide) rfl rfl ⟨by decide, by decide⟩ (jC.of rfl k_X11_isFresh rfl ?_)
                show jX m_X11_isFresh 96 0 0 0 [(0, .ref 101), (1, .int 0), (2, .int a3), (3, .int 1)] [] _ 0 0 _
                refine x_aloadn (x := 101) rfl rfl ?_
                refine y_alen (N := 3) (v := 3) rfl (F.1 101 (100, 3) rfl rfl) (by decide) (by decide) ?_
                refine x_iconst (v := 3) rfl ki_3 ?_
                refine x_icge (tgt := 8) rfl rfl (br_t (by decide) ?_)
                refine x_aloadn (x := 101) rfl rfl ?_
                refine x_iconst (v := 0) rfl ki_0 ?_
                refine y_iald (v := 0) (N := 3) 0 rfl (F.1 101 (100, 3) rfl rfl) (jinb_of (by decide)) (by decide) (F.2.2.2.1 101 rfl rfl 0).1 ?_
                refine x_iloadn (x := 0) rfl rfl ?_
                refine x_icne (tgt := 33) rfl rfl (bn_f (by decide) ?_)
                refine x_aloadn (x := 101) rfl rfl ?_
                refine x_iconst (v := 1) rfl ki_1 ?_
                refine y_iald (v := 0) (N := 3) 1 rfl (F.1 101 (100, 3) rfl rfl) (jinb_of (by decide)) (by decide) (F.2.2.2.1 101 rfl rfl 1).1 ?_
                refine x_iloadn (x := a3) rfl rfl ?_
                refine x_icne (tgt := 33) rfl rfl (ti_ne (show (0 : Int32).toInt = 0 by decide) (show (a3 : Int32).toInt = a3.toInt from rfl) (bn_t c6 ?_))
                refine x_iconst (v := 0) rfl ki_0 ?_
                refine x_istore (ls' := [(4, .int 0), (0, .ref 101), (1, .int 0), (2, .int a3), (3, .int 1)]) rfl rfl rfl ?_
                refine x_aloadn (x := 101) rfl rfl ?_
                refine x_iconst (v := 0) rfl ki_0 ?_
                refine x_iloadn (x := 0) rfl rfl ?_
                refine y_iast (N := 3) 0 rfl (F.1 101 (100, 3) rfl rfl) rfl (jinb_of (by decide)) (by decide) ?_
                refine x_aloadn (x := 101) rfl rfl ?_
                refine x_iconst (v := 1) rfl ki_1 ?_
                refine x_iloadn (x := a3) rfl rfl ?_
                refine y_iast (N := 3) 1 rfl (F.1 101 (100, 3) rfl rfl) rfl (jinb_of (by decide)) (by decide) ?_
                refine x_aloadn (x := 101) rfl rfl ?_
                refine x_iconst (v := 2) rfl ki_2 ?_
                refine x_iloadn (x := 1) rfl rfl ?_
                refine y_iast (N := 3) 2 rfl (F.1 101 (100, 3) rfl rfl) rfl (jinb_of (by decide)) (by decide) ?_
                refine x_iload (x := 0) rfl rfl ?_
                refine x_zret rfl rfl (by first | decide | exact jp_01 _) ?_
                show jX m_X0_readLaws 97 0 0 32 [(0, .ref 98), (1, .int 0), (2, .int a3)] [.int 0] _ 0 0 _
                refine x_ifeq (tgt := 36) rfl rfl (br_t (by decide) ?_)
                refine x_bipush (v := 30) rfl kb_30 ?_
                refine x_aloadn (x := 98) rfl rfl ?_
                refine x_getR (b := 32) 0 0 rfl f_0_57 rfl (congrArg Prod.fst (F.1 98 (0, 16) rfl rfl)) (F.2.1 12544 32 rfl rfl) ?_
                refine y_getI (v := 0) 1 18 rfl f_0_72 rfl (congrArg Prod.fst (F.1 32 (1, 20) rfl rfl)) (F.2.2.1 4114 0 rfl rfl) ?_
                refine x_inst (N := m_J9_min_7cf53) (As := [.int 30, .int 0]) (st := []) (d' := 96) (mc := 0) (ms := 0) (host := "") rfl t_J9_min_7cf53 ⟨Or.inl q_0_88, s_J9_min_7cf53⟩ rfl (by decide) rfl rfl ⟨by decide, by decide⟩ (jC.of rfl k_J9_min_7cf53 rfl ?_)
                show jX m_J9_min_7cf53 96 0 0 0 [(0, .int 30), (1, .int 0)] [] _ 0 0 _
                refine x_iloadn (x := 30) rfl rfl ?_
                refine x_iloadn (x := 0) rfl rfl ?_
                refine x_icgt (tgt := 9) rfl rfl (br_t (by decide) ?_)
                refine x_iloadn (x := 0) rfl rfl ?_
                refine x_iret rfl rfl ?_
                show jX m_X0_readLaws 97 0 0 48 [(0, .ref 98), (1, .int 0), (2, .int a3)] [.int 0] _ 0 0 _
                refine x_istoren (ls' := [(3, .int 0), (0, .ref 98), (1, .int 0), (2, .int a3)]) rfl rfl rfl ?_
                refine x_iconst (v := 0) rfl ki_0 ?_
                refine x_istore (ls' := [(4, .int 0), (3, .int 0), (0, .ref 98), (1, .int 0), (2, .int a3)]) rfl rfl rfl ?_
                refine x_iload (x := 0) rfl rfl ?_
                refine x_iloadn (x := 0) rfl rfl ?_
                refine x_icge (tgt := 80) rfl rfl (br_t (by decide) ?_)
                refine x_iloadn (x := 0) rfl rfl ?_
                refine x_iconst (v := 1) rfl ki_1 ?_
                refine y_isub (v := (-1)) rfl (by decide) ?_
                refine x_istore (ls' := [(4, .int (-1)), (3, .int 0), (0, .ref 98), (1, .int 0), (2, .int a3)]) rfl rfl rfl ?_
                refine x_iload (x := (-1)) rfl rfl ?_
                refine x_iflt (tgt := 167) rfl rfl (br_t (by decide) ?_)
                refine x_vret rfl rfl ?_
                show jX m_X0_turnTo 98 0 0 6 [(0, .ref 98), (1, .int 0), (2, .int a3)] [] _ 0 0 _
                refine x_aloadn (x := 98) rfl rfl ?_
                refine x_iloadn (x := 0) rfl rfl ?_
                refine x_iloadn (x := a3) rfl rfl ?_
                refine x_inv (N := m_X0_readHouses) (As := [.int 0, .int a3]) (b := 98) (st := []) (d' := 97) (mc := 0) (ms := 0) (host := "") 0 rfl t_X0_readHouses ⟨Or.inl q_0_69, i_X0_readHouses.1, i_X0_readHouses.2⟩ ⟨by decide, rfl⟩ (congrArg Prod.fst (F.1 98 (0, 16) rfl rfl)) rfl (by decide) rfl rfl ⟨by decide, by decide⟩ (jC.of rfl k_X0_readHouses rfl ?_)
                show jX m_X0_readHouses 97 0 0 0 [(0, .ref 98), (1, .int 0), (2, .int a3)] [] _ 0 0 _
                refine x_aloadn (x := 98) rfl rfl ?_
                refine x_iloadn (x := 0) rfl rfl ?_
                refine x_putI 0 10 rfl f_0_37 rfl (jfin_no TX0 RX0 16 rfl rfl) (congrArg Prod.fst (F.1 98 (0, 16) rfl rfl)) rfl ?_
                refine x_aloadn (x := 98) rfl rfl ?_
                refine x_iloadn (x := a3) rfl rfl ?_
                refine x_putI 0 11 rfl f_0_41 rfl (jfin_no TX0 RX0 16 rfl rfl) (congrArg Prod.fst (F.1 98 (0, 16) rfl rfl)) rfl ?_
                refine x_aloadn (x := 98) rfl rfl ?_
                refine x_getR (b := 105) 0 8 rfl f_0_30 rfl (congrArg Prod.fst (F.1 98 (0, 16) rfl rfl)) (F.2.1 12552 105 rfl rfl) ?_
                refine x_aloadn (x := 98) rfl rfl ?_
                refine y_getI (v := 0) 0 10 rfl f_0_37 rfl (congrArg Prod.fst (F.1 98 (0, 16) rfl rfl)) rfl ?_
                refine x_aloadn (x := 98) rfl rfl ?_
                refine y_getI (v := a3) 0 11 rfl f_0_41 rfl (congrArg Prod.fst (F.1 98 (0, 16) rfl rfl)) rfl ?_
                refine x_aloadn (x := 98) rfl rfl ?_
                refine x_getR (b := 32) 0 0 rfl f_0_57 rfl (congrArg Prod.fst (F.1 98 (0, 16) rfl rfl)) (F.2.1 12544 32 rfl rfl) ?_
                refine y_getI (v := 1) 1 19 rfl f_0_81 rfl (congrArg Prod.fst (F.1 32 (1, 20) rfl rfl)) (F.2.2.1 4115 1 rfl rfl) ?_
                refine x_inst (N := m_X11_isFresh) (As := [.ref 105, .int 0, .int a3, .int 1]) (st := []) (d' := 96) (mc := 0) (ms := 0) (host := "ParishChest") rfl t_X11_isFresh ⟨Or.inr q_0_84, s_X11_isFresh⟩ rfl (by decide) rfl rfl ⟨by decide, by decide⟩ (jC.of rfl k_X11_isFresh rfl ?_)
                show jX m_X11_isFresh 96 0 0 0 [(0, .ref 105), (1, .int 0), (2, .int a3), (3, .int 1)] [] _ 0 0 _
                refine x_aloadn (x := 105) rfl rfl ?_
                refine y_alen (N := 3) (v := 3) rfl (F.1 105 (100, 3) rfl rfl) (by decide) (by decide) ?_
                refine x_iconst (v := 3) rfl ki_3 ?_
                refine x_icge (tgt := 8) rfl rfl (br_t (by decide) ?_)
                refine x_aloadn (x := 105) rfl rfl ?_
                refine x_iconst (v := 0) rfl ki_0 ?_
                refine y_iald (v := 0) (N := 3) 0 rfl (F.1 105 (100, 3) rfl rfl) (jinb_of (by decide)) (by decide) (F.2.2.2.1 105 rfl rfl 0).1 ?_
                refine x_iloadn (x := 0) rfl rfl ?_
                refine x_icne (tgt := 33) rfl rfl (bn_f (by decide) ?_)
                refine x_aloadn (x := 105) rfl rfl ?_
                refine x_iconst (v := 1) rfl ki_1 ?_
                refine y_iald (v := 0) (N := 3) 1 rfl (F.1 105 (100, 3) rfl rfl) (jinb_of (by decide)) (by decide) (F.2.2.2.1 105 rfl rfl 1).1 ?_
                refine x_iloadn (x := a3) rfl rfl ?_
                refine x_icne (tgt := 33) rfl rfl (ti_ne (show (0 : Int32).toInt = 0 by decide) (show (a3 : Int32).toInt = a3.toInt from rfl) (bn_t c6 ?_))
                refine x_iconst (v := 0) rfl ki_0 ?_
                refine x_istore (ls' := [(4, .int 0), (0, .ref 105), (1, .int 0), (2, .int a3), (3, .int 1)]) rfl rfl rfl ?_
                refine x_aloadn (x := 105) rfl rfl ?_
                refine x_iconst (v := 0) rfl ki_0 ?_
                refine x_iloadn (x := 0) rfl rfl ?_
                refine y_iast (N := 3) 0 rfl (F.1 105 (100, 3) rfl rfl) rfl (jinb_of (by decide)) (by decide) ?_
                refine x_aloadn (x := 105) rfl rfl ?_
                refine x_iconst (v := 1) rfl ki_1 ?_
                refine x_iloadn (x := a3) rfl rfl ?_
                refine y_iast (N := 3) 1 rfl (F.1 105 (100, 3) rfl rfl) rfl (jinb_of (by decide)) (by decide) ?_
                refine x_aloadn (x := 105) rfl rfl ?_
                refine x_iconst (v := 2) rfl ki_2 ?_
                refine x_iloadn (x := 1) rfl rfl ?_
                refine y_iast (N := 3) 2 rfl (F.1 105 (100, 3) rfl rfl) rfl (jinb_of (by decide)) (by decide) ?_
                refine x_iload (x := 0) rfl rfl ?_
                refine x_zret rfl rfl (by first | decide | exact jp_01 _) ?_
                show jX m_X0_readHouses 97 0 0 32 [(0, .ref 98), (1, .int 0), (2, .int a3)] [.int 0] _ 0 0 _
                refine x_ifeq (tgt := 36) rfl rfl (br_t (by decide) ?_)
                refine x_bipush (v := 40) rfl kb_40 ?_
                refine x_aloadn (x := 98) rfl rfl ?_
                refine x_getR (b := 32) 0 0 rfl f_0_57 rfl (congrArg Prod.fst (F.1 98 (0, 16) rfl rfl)) (F.2.1 12544 32 rfl rfl) ?_
                refine x_getR (b := 49) 1 8 rfl f_0_120 rfl (congrArg Prod.fst (F.1 32 (1, 20) rfl rfl)) (F.2.1 4104 49 rfl rfl) ?_
                refine y_getI (v := 0) 8 3 rfl f_0_124 rfl (congrArg Prod.fst (F.1 49 (8, 4) rfl rfl)) (F.2.2.1 6275 0 rfl rfl) ?_
                refine x_inst (N := m_J9_min_7cf53) (As := [.int 40, .int 0]) (st := []) (d' := 96) (mc := 0) (ms := 0) (host := "") rfl t_J9_min_7cf53 ⟨Or.inl q_0_88, s_J9_min_7cf53⟩ rfl (by decide) rfl rfl ⟨by decide, by decide⟩ (jC.of rfl k_J9_min_7cf53 rfl ?_)
                show jX m_J9_min_7cf53 96 0 0 0 [(0, .int 40), (1, .int 0)] [] _ 0 0 _
                refine x_iloadn (x := 40) rfl rfl ?_
                refine x_iloadn (x := 0) rfl rfl ?_
                refine x_icgt (tgt := 9) rfl rfl (br_t (by decide) ?_)
                refine x_iloadn (x := 0) rfl rfl ?_
                refine x_iret rfl rfl ?_
                show jX m_X0_readHouses 97 0 0 51 [(0, .ref 98), (1, .int 0), (2, .int a3)] [.int 0] _ 0 0 _
                refine x_istoren (ls' := [(3, .int 0), (0, .ref 98), (1, .int 0), (2, .int a3)]) rfl rfl rfl ?_
                refine x_aloadn (x := 98) rfl rfl ?_
                refine x_aloadn (x := 98) rfl rfl ?_
                refine x_getR (b := 32) 0 0 rfl f_0_57 rfl (congrArg Prod.fst (F.1 98 (0, 16) rfl rfl)) (F.2.1 12544 32 rfl rfl) ?_
                refine x_getR (b := 47) 1 7 rfl f_0_129 rfl (congrArg Prod.fst (F.1 32 (1, 20) rfl rfl)) (F.2.1 4103 47 rfl rfl) ?_
                refine x_iconst (v := 3) rfl ki_3 ?_
                refine x_aloadn (x := 98) rfl rfl ?_
                refine x_getR (b := 102) 0 5 rfl f_0_21 rfl (congrArg Prod.fst (F.1 98 (0, 16) rfl rfl)) (F.2.1 12549 102 rfl rfl) ?_
                refine x_iconst (v := 0) rfl ki_0 ?_
                refine x_inv (N := m_X0_readLatest) (As := [.ref 47, .int 3, .ref 102, .int 0]) (b := 98) (st := []) (d' := 96) (mc := 0) (ms := 0) (host := "") 0 rfl t_X0_readLatest ⟨Or.inl q_0_132, i_X0_readLatest.1, i_X0_readLatest.2⟩ ⟨by decide, rfl⟩ (congrArg Prod.fst (F.1 98 (0, 16) rfl rfl)) rfl (by decide) rfl rfl ⟨by decide, by decide⟩ (jC.of rfl k_X0_readLatest rfl ?_)
                show jX m_X0_readLatest 96 0 0 0 [(0, .ref 98), (1, .ref 47), (2, .int 3), (3, .ref 102), (4, .int 0)] [] _ 0 0 _
                refine x_iconst (v := 0) rfl ki_0 ?_
                refine x_istore (ls' := [(5, .int 0), (0, .ref 98), (1, .ref 47), (2, .int 3), (3, .ref 102), (4, .int 0)]) rfl rfl rfl ?_
                refine x_iload (x := 0) rfl rfl ?_
                refine x_bipush (v := 40) rfl kb_40 ?_
                refine x_icge (tgt := 52) rfl rfl (br_f (by decide) ?_)
                refine x_iload (x := 0) rfl rfl ?_
                refine x_aloadn (x := 98) rfl rfl ?_
                refine x_getR (b := 32) 0 0 rfl f_0_57 rfl (congrArg Prod.fst (F.1 98 (0, 16) rfl rfl)) (F.2.1 12544 32 rfl rfl) ?_
                refine x_getR (b := 49) 1 8 rfl f_0_120 rfl (congrArg Prod.fst (F.1 32 (1, 20) rfl rfl)) (F.2.1 4104 49 rfl rfl) ?_
                refine y_getI (v := 0) 8 3 rfl f_0_124 rfl (congrArg Prod.fst (F.1 49 (8, 4) rfl rfl)) (F.2.2.1 6275 0 rfl rfl) ?_
                refine x_icge (tgt := 52) rfl rfl (br_t (by decide) ?_)
                refine x_iconst (v := 0) rfl ki_0 ?_
                refine x_istore (ls' := [(5, .int 0), (0, .ref 98), (1, .ref 47), (2, .int 3), (3, .ref 102), (4, .int 0)]) rfl rfl rfl ?_
                refine x_iload (x := 0) rfl rfl ?_
                refine x_aloadn (x := 47) rfl rfl ?_
                refine y_getI (v := 0) 8 3 rfl f_0_124 rfl (congrArg Prod.fst (F.1 47 (8, 4) rfl rfl)) (F.2.2.1 6019 0 rfl rfl) ?_
                refine x_icge (tgt := 161) rfl rfl (br_t (by decide) ?_)
                refine x_vret rfl rfl ?_
                show jX m_X0_readHouses 97 0 0 69 [(3, .int 0), (0, .ref 98), (1, .int 0), (2, .int a3)] [] _ 0 0 _
                refine x_aloadn (x := 98) rfl rfl ?_
                refine x_aloadn (x := 98) rfl rfl ?_
                refine x_getR (b := 32) 0 0 rfl f_0_57 rfl (congrArg Prod.fst (F.1 98 (0, 16) rfl rfl)) (F.2.1 12544 32 rfl rfl) ?_
                refine x_getR (b := 51) 1 9 rfl f_0_136 rfl (congrArg Prod.fst (F.1 32 (1, 20) rfl rfl)) (F.2.1 4105 51 rfl rfl) ?_
                refine x_iconst (v := 3) rfl ki_3 ?_
                refine x_aloadn (x := 98) rfl rfl ?_
                refine x_getR (b := 103) 0 6 rfl f_0_24 rfl (congrArg Prod.fst (F.1 98 (0, 16) rfl rfl)) (F.2.1 12550 103 rfl rfl) ?_
                refine x_iconst (v := (-1)) rfl ki_m1 ?_
                refine x_inv (N := m_X0_readLatest) (As := [.ref 51, .int 3, .ref 103, .int (-1)]) (b := 98) (st := []) (d' := 96) (mc := 0) (ms := 0) (host := "") 0 rfl t_X0_readLatest ⟨Or.inl q_0_132, i_X0_readLatest.1, i_X0_readLatest.2⟩ ⟨by decide, rfl⟩ (congrArg Prod.fst (F.1 98 (0, 16) rfl rfl)) rfl (by decide) rfl rfl ⟨by decide, by decide⟩ (jC.of rfl k_X0_readLatest rfl ?_)
                show jX m_X0_readLatest 96 0 0 0 [(0, .ref 98), (1, .ref 51), (2, .int 3), (3, .ref 103), (4, .int (-1))] [] _ 0 0 _
                refine x_iconst (v := 0) rfl ki_0 ?_
                refine x_istore (ls' := [(5, .int 0), (0, .ref 98), (1, .ref 51), (2, .int 3), (3, .ref 103), (4, .int (-1))]) rfl rfl rfl ?_
                refine x_iload (x := 0) rfl rfl ?_
                refine x_bipush (v := 40) rfl kb_40 ?_
                refine x_icge (tgt := 52) rfl rfl (br_f (by decide) ?_)
                refine x_iload (x := 0) rfl rfl ?_
                refine x_aloadn (x := 98) rfl rfl ?_
                refine x_getR (b := 32) 0 0 rfl f_0_57 rfl (congrArg Prod.fst (F.1 98 (0, 16) rfl rfl)) (F.2.1 12544 32 rfl rfl) ?_
                refine x_getR (b := 49) 1 8 rfl f_0_120 rfl (congrArg Prod.fst (F.1 32 (1, 20) rfl rfl)) (F.2.1 4104 49 rfl rfl) ?_
                refine y_getI (v := 0) 8 3 rfl f_0_124 rfl (congrArg Prod.fst (F.1 49 (8, 4) rfl rfl)) (F.2.2.1 6275 0 rfl rfl) ?_
                refine x_icge (tgt := 52) rfl rfl (br_t (by decide) ?_)
                refine x_iconst (v := 0) rfl ki_0 ?_
                refine x_istore (ls' := [(5, .int 0), (0, .ref 98), (1, .ref 51), (2, .int 3), (3, .ref 103), (4, .int (-1))]) rfl rfl rfl ?_
                refine x_iload (x := 0) rfl rfl ?_
                refine x_aloadn (x := 51) rfl rfl ?_
                refine y_getI (v := 0) 8 3 rfl f_0_124 rfl (congrArg Prod.fst (F.1 51 (8, 4) rfl rfl)) (F.2.2.1 6531 0 rfl rfl) ?_
                refine x_icge (tgt := 161) rfl rfl (br_t (by decide) ?_)
                refine x_vret rfl rfl ?_
                show jX m_X0_readHouses 97 0 0 86 [(3, .int 0), (0, .ref 98), (1, .int 0), (2, .int a3)] [] _ 0 0 _
                refine x_iconst (v := 0) rfl ki_0 ?_
                refine x_istore (ls' := [(4, .int 0), (3, .int 0), (0, .ref 98), (1, .int 0), (2, .int a3)]) rfl rfl rfl ?_
                refine x_iload (x := 0) rfl rfl ?_
                refine x_iloadn (x := 0) rfl rfl ?_
                refine x_icge (tgt := 172) rfl rfl (br_t (by decide) ?_)
                refine x_vret rfl rfl ?_
                show jX m_X0_turnTo 98 0 0 12 [(0, .ref 98), (1, .int 0), (2, .int a3)] [] _ 0 0 _
                refine x_vret rfl rfl ?_
                show jX m_X4_partOut 99 0 0 71 [(4, .int 0), (3, .int 0), (0, .ref 107), (1, .int a1), (2, .int a3)] [] _ 0 0 _
                refine x_lconst (v := 0) rfl kl_0 ?_
                refine x_lstore (ls' := [(5, .long 0), (4, .int 0), (3, .int 0), (0, .ref 107), (1, .int a1), (2, .int a3)]) rfl rfl rfl ?_
                refine x_iconst (v := 0) rfl ki_0 ?_
                refine x_istore (ls' := [(7, .int 0), (5, .long 0), (4, .int 0), (3, .int 0), (0, .ref 107), (1, .int a1), (2, .int a3)]) rfl rfl rfl ?_
                refine x_iload (x := 0) rfl rfl ?_
                refine x_aloadn (x := 107) rfl rfl ?_
                refine x_inv (N := m_X4_houses) (As := []) (b := 107) (st := [.int 0]) (d' := 98) (mc := 0) (ms := 0) (host := "") 4 rfl t_X4_houses ⟨Or.inl q_4_107, i_X4_houses.1, i_X4_houses.2⟩ ⟨by decide, rfl⟩ (congrArg Prod.fst (F.1 107 (4, 18) rfl rfl)) rfl (by decide) rfl rfl ⟨by decide, by decide⟩ (jC.of rfl k_X4_houses rfl ?_)
                show jX m_X4_houses 98 0 0 0 [(0, .ref 107)] [] _ 0 0 _
                refine x_bipush (v := 40) rfl kb_40 ?_
                refine x_aloadn (x := 107) rfl rfl ?_
                refine x_getR (b := 32) 4 0 rfl f_4_59 rfl (congrArg Prod.fst (F.1 107 (4, 18) rfl rfl)) (F.2.1 13696 32 rfl rfl) ?_
                refine x_getR (b := 49) 1 8 rfl f_4_71 rfl (congrArg Prod.fst (F.1 32 (1, 20) rfl rfl)) (F.2.1 4104 49 rfl rfl) ?_
                refine y_getI (v := 0) 8 3 rfl f_4_77 rfl (congrArg Prod.fst (F.1 49 (8, 4) rfl rfl)) (F.2.2.1 6275 0 rfl rfl) ?_
                refine x_inst (N := m_J9_min_7cf53) (As := [.int 40, .int 0]) (st := []) (d' := 97) (mc := 0) (ms := 0) (host := "") rfl t_J9_min_7cf53 ⟨Or.inl q_4_82, s_J9_min_7cf53⟩ rfl (by decide) rfl rfl ⟨by decide, by decide⟩ (jC.of rfl k_J9_min_7cf53 rfl ?_)
                show jX m_J9_min_7cf53 97 0 0 0 [(0, .int 40), (1, .int 0)] [] _ 0 0 _
                refine x_iloadn (x := 40) rfl rfl ?_
                refine x_iloadn (x := 0) rfl rfl ?_
                refine x_icgt (tgt := 9) rfl rfl (br_t (by decide) ?_)
                refine x_iloadn (x := 0) rfl rfl ?_
                refine x_iret rfl rfl ?_
                show jX m_X4_houses 98 0 0 15 [(0, .ref 107)] [.int 0] _ 0 0 _
                refine x_iret rfl rfl ?_
                show jX m_X4_partOut 99 0 0 83 [(7, .int 0), (5, .long 0), (4, .int 0), (3, .int 0), (0, .ref 107), (1, .int a1), (2, .int a3)] [.int 0, .int 0] _ 0 0 _
                refine x_icge (tgt := 187) rfl rfl (br_t (by decide) ?_)
                refine x_aloadn (x := 107) rfl rfl ?_
                refine x_iload (x := 0) rfl rfl ?_
                refine x_lload (x := 0) rfl rfl ?_
                refine x_inv (N := m_X4_share) (As := [.int 0, .long 0]) (b := 107) (st := []) (d' := 98) (mc := 0) (ms := 0) (host := "") 4 rfl t_X4_share ⟨Or.inl q_4_123, i_X4_share.1, i_X4_share.2⟩ ⟨by decide, rfl⟩ (congrArg Prod.fst (F.1 107 (4, 18) rfl rfl)) rfl (by decide) rfl rfl ⟨by decide, by decide⟩ (jC.of rfl k_X4_share rfl ?_)
                show jX m_X4_share 98 0 0 0 [(0, .ref 107), (1, .int 0), (2, .long 0)] [] _ 0 0 _
                refine x_lloadn (x := 0) rfl rfl ?_
                refine x_lconst (v := 0) rfl kl_0 ?_
                refine y_lcmp (v := 0) rfl (by decide) ?_
                refine x_ifne (tgt := 10) rfl rfl (bn_f (by decide) ?_)
                refine x_lconst (v := 0) rfl kl_0 ?_
                refine x_goto (tgt := 12) rfl rfl ?_
                refine x_lstore (ls' := [(4, .long 0), (0, .ref 107), (1, .int 0), (2, .long 0)]) rfl rfl rfl ?_
                refine x_iconst (v := 0) rfl ki_0 ?_
                refine x_istore (ls' := [(6, .int 0), (4, .long 0), (0, .ref 107), (1, .int 0), (2, .long 0)]) rfl rfl rfl ?_
                refine x_iload (x := 0) rfl rfl ?_
                refine x_aloadn (x := 107) rfl rfl ?_
                refine x_inv (N := m_X4_houses) (As := []) (b := 107) (st := [.int 0]) (d' := 97) (mc := 0) (ms := 0) (host := "") 4 rfl t_X4_houses ⟨Or.inl q_4_107, i_X4_houses.1, i_X4_houses.2⟩ ⟨by decide, rfl⟩ (congrArg Prod.fst (F.1 107 (4, 18) rfl rfl)) rfl (by decide) rfl rfl ⟨by decide, by decide⟩ (jC.of rfl k_X4_houses rfl ?_)
                show jX m_X4_houses 97 0 0 0 [(0, .ref 107)] [] _ 0 0 _
                refine x_bipush (v := 40) rfl kb_40 ?_
                refine x_aloadn (x := 107) rfl rfl ?_
                refine x_getR (b := 32) 4 0 rfl f_4_59 rfl (congrArg Prod.fst (F.1 107 (4, 18) rfl rfl)) (F.2.1 13696 32 rfl rfl) ?_
                refine x_getR (b := 49) 1 8 rfl f_4_71 rfl (congrArg Prod.fst (F.1 32 (1, 20) rfl rfl)) (F.2.1 4104 49 rfl rfl) ?_
                refine y_getI (v := 0) 8 3 rfl f_4_77 rfl (congrArg Prod.fst (F.1 49 (8, 4) rfl rfl)) (F.2.2.1 6275 0 rfl rfl) ?_
                refine x_inst (N := m_J9_min_7cf53) (As := [.int 40, .int 0]) (st := []) (d' := 96) (mc := 0) (ms := 0) (host := "") rfl t_J9_min_7cf53 ⟨Or.inl q_4_82, s_J9_min_7cf53⟩ rfl (by decide) rfl rfl ⟨by decide, by decide⟩ (jC.of rfl k_J9_min_7cf53 rfl ?_)
                show jX m_J9_min_7cf53 96 0 0 0 [(0, .int 40), (1, .int 0)] [] _ 0 0 _
                refine x_iloadn (x := 40) rfl rfl ?_
                refine x_iloadn (x := 0) rfl rfl ?_
                refine x_icgt (tgt := 9) rfl rfl (br_t (by decide) ?_)
                refine x_iloadn (x := 0) rfl rfl ?_
                refine x_iret rfl rfl ?_
                show jX m_X4_houses 97 0 0 15 [(0, .ref 107)] [.int 0] _ 0 0 _
                refine x_iret rfl rfl ?_
                show jX m_X4_share 98 0 0 23 [(6, .int 0), (4, .long 0), (0, .ref 107), (1, .int 0), (2, .long 0)] [.int 0, .int 0] _ 0 0 _
                refine x_icge (tgt := 113) rfl rfl (br_t (by decide) ?_)
                refine x_iconst (v := 0) rfl ki_0 ?_
                refine x_istore (ls' := [(6, .int 0), (4, .long 0), (0, .ref 107), (1, .int 0), (2, .long 0)]) rfl rfl rfl ?_
                refine x_iload (x := 0) rfl rfl ?_
                refine x_bipush (v := 40) rfl kb_40 ?_
                refine x_icge (tgt := 175) rfl rfl (br_f (by decide) ?_)
                refine x_lload (x := 0) rfl rfl ?_
                refine x_lconst (v := 0) rfl kl_0 ?_
                refine y_lcmp (v := 0) rfl (by decide) ?_
                refine x_ifle (tgt := 175) rfl rfl (br_t (by decide) ?_)
                refine x_vret rfl rfl ?_
                show jX m_X4_partOut 99 0 0 195 [(7, .int 0), (5, .long 0), (4, .int 0), (3, .int 0), (0, .ref 107), (1, .int a1), (2, .int a3)] [] _ 0 0 _
                refine x_iconst (v := 0) rfl ki_0 ?_
                refine x_istore (ls' := [(7, .int 0), (5, .long 0), (4, .int 0), (3, .int 0), (0, .ref 107), (1, .int a1), (2, .int a3)]) rfl rfl rfl ?_
                refine x_iload (x := 0) rfl rfl ?_
                refine x_aloadn (x := 107) rfl rfl ?_
                refine x_inv (N := m_X4_houses) (As := []) (b := 107) (st := [.int 0]) (d' := 98) (mc := 0) (ms := 0) (host := "") 4 rfl t_X4_houses ⟨Or.inl q_4_107, i_X4_houses.1, i_X4_houses.2⟩ ⟨by decide, rfl⟩ (congrArg Prod.fst (F.1 107 (4, 18) rfl rfl)) rfl (by decide) rfl rfl ⟨by decide, by decide⟩ (jC.of rfl k_X4_houses rfl ?_)
                show jX m_X4_houses 98 0 0 0 [(0, .ref 107)] [] _ 0 0 _
                refine x_bipush (v := 40) rfl kb_40 ?_
                refine x_aloadn (x := 107) rfl rfl ?_
                refine x_getR (b := 32) 4 0 rfl f_4_59 rfl (congrArg Prod.fst (F.1 107 (4, 18) rfl rfl)) (F.2.1 13696 32 rfl rfl) ?_
                refine x_getR (b := 49) 1 8 rfl f_4_71 rfl (congrArg Prod.fst (F.1 32 (1, 20) rfl rfl)) (F.2.1 4104 49 rfl rfl) ?_
                refine y_getI (v := 0) 8 3 rfl f_4_77 rfl (congrArg Prod.fst (F.1 49 (8, 4) rfl rfl)) (F.2.2.1 6275 0 rfl rfl) ?_
                refine x_inst (N := m_J9_min_7cf53) (As := [.int 40, .int 0]) (st := []) (d' := 97) (mc := 0) (ms := 0) (host := "") rfl t_J9_min_7cf53 ⟨Or.inl q_4_82, s_J9_min_7cf53⟩ rfl (by decide) rfl rfl ⟨by decide, by decide⟩ (jC.of rfl k_J9_min_7cf53 rfl ?_)
                show jX m_J9_min_7cf53 97 0 0 0 [(0, .int 40), (1, .int 0)] [] _ 0 0 _
                refine x_iloadn (x := 40) rfl rfl ?_
                refine x_iloadn (x := 0) rfl rfl ?_
                refine x_icgt (tgt := 9) rfl rfl (br_t (by decide) ?_)
                refine x_iloadn (x := 0) rfl rfl ?_
                refine x_iret rfl rfl ?_
                show jX m_X4_houses 98 0 0 15 [(0, .ref 107)] [.int 0] _ 0 0 _
                refine x_iret rfl rfl ?_
                show jX m_X4_partOut 99 0 0 204 [(7, .int 0), (5, .long 0), (4, .int 0), (3, .int 0), (0, .ref 107), (1, .int a1), (2, .int a3)] [.int 0, .int 0] _ 0 0 _
                refine x_icge (tgt := 275) rfl rfl (br_t (by decide) ?_)
                refine x_vret rfl rfl ?_
                show jX m_X11_owe 100 0 0 54 [(0, .ref 31), (1, .int a1), (2, .int a2), (3, .int a3)] [] _ 0 0 _
                refine x_iloadn (x := a2) rfl rfl ?_
                refine x_iconst (v := (-1)) rfl ki_m1 ?_
                refine x_icne (tgt := 69) rfl rfl (ti_ne (show (a2 : Int32).toInt = a2.toInt from rfl) (show ((-1) : Int32).toInt = (-1) by decide) (bn_f c5 ?_))
                refine x_aloadn (x := 31) rfl rfl ?_
                refine x_getR (b := 107) 11 8 rfl f_11_75 rfl (congrArg Prod.fst (F.1 31 (11, 13) rfl rfl)) (F.2.1 3976 107 rfl rfl) ?_
                refine x_inv (N := m_X4_owedByAll) (As := []) (b := 107) (st := []) (d' := 99) (mc := 0) (ms := 0) (host := "") 4 rfl t_X4_owedByAll ⟨Or.inl q_11_446, i_X4_owedByAll.1, i_X4_owedByAll.2⟩ ⟨by decide, rfl⟩ (congrArg Prod.fst (F.1 107 (4, 18) rfl rfl)) rfl (by decide) rfl rfl ⟨by decide, by decide⟩ (jC.of rfl k_X4_owedByAll rfl ?_)
                show jX m_X4_owedByAll 99 0 0 0 [(0, .ref 107)] [] _ 0 0 _
                refine x_iconst (v := 0) rfl ki_0 ?_
                refine x_istoren (ls' := [(1, .int 0), (0, .ref 107)]) rfl rfl rfl ?_
                refine x_iconst (v := 0) rfl ki_0 ?_
                refine x_istoren (ls' := [(2, .int 0), (1, .int 0), (0, .ref 107)]) rfl rfl rfl ?_
                refine x_iloadn (x := 0) rfl rfl ?_
                refine x_aloadn (x := 107) rfl rfl ?_
                refine x_inv (N := m_X4_houses) (As := []) (b := 107) (st := [.int 0]) (d' := 98) (mc := 0) (ms := 0) (host := "") 4 rfl t_X4_houses ⟨Or.inl q_4_107, i_X4_houses.1, i_X4_houses.2⟩ ⟨by decide, rfl⟩ (congrArg Prod.fst (F.1 107 (4, 18) rfl rfl)) rfl (by decide) rfl rfl ⟨by decide, by decide⟩ (jC.of rfl k_X4_houses rfl ?_)
                show jX m_X4_houses 98 0 0 0 [(0, .ref 107)] [] _ 0 0 _
                refine x_bipush (v := 40) rfl kb_40 ?_
                refine x_aloadn (x := 107) rfl rfl ?_
                refine x_getR (b := 32) 4 0 rfl f_4_59 rfl (congrArg Prod.fst (F.1 107 (4, 18) rfl rfl)) (F.2.1 13696 32 rfl rfl) ?_
                refine x_getR (b := 49) 1 8 rfl f_4_71 rfl (congrArg Prod.fst (F.1 32 (1, 20) rfl rfl)) (F.2.1 4104 49 rfl rfl) ?_
                refine y_getI (v := 0) 8 3 rfl f_4_77 rfl (congrArg Prod.fst (F.1 49 (8, 4) rfl rfl)) (F.2.2.1 6275 0 rfl rfl) ?_
                refine x_inst (N := m_J9_min_7cf53) (As := [.int 40, .int 0]) (st := []) (d' := 97) (mc := 0) (ms := 0) (host := "") rfl t_J9_min_7cf53 ⟨Or.inl q_4_82, s_J9_min_7cf53⟩ rfl (by decide) rfl rfl ⟨by decide, by decide⟩ (jC.of rfl k_J9_min_7cf53 rfl ?_)
                show jX m_J9_min_7cf53 97 0 0 0 [(0, .int 40), (1, .int 0)] [] _ 0 0 _
                refine x_iloadn (x := 40) rfl rfl ?_
                refine x_iloadn (x := 0) rfl rfl ?_
                refine x_icgt (tgt := 9) rfl rfl (br_t (by decide) ?_)
                refine x_iloadn (x := 0) rfl rfl ?_
                refine x_iret rfl rfl ?_
                show jX m_X4_houses 98 0 0 15 [(0, .ref 107)] [.int 0] _ 0 0 _
                refine x_iret rfl rfl ?_
                show jX m_X4_owedByAll 99 0 0 9 [(2, .int 0), (1, .int 0), (0, .ref 107)] [.int 0, .int 0] _ 0 0 _
                refine x_icge (tgt := 27) rfl rfl (br_t (by decide) ?_)
                refine x_iloadn (x := 0) rfl rfl ?_
                refine x_iret rfl rfl ?_
                show jX m_X11_owe 100 0 0 66 [(0, .ref 31), (1, .int a1), (2, .int a2), (3, .int a3)] [.int 0] _ 0 0 _
                refine x_goto (tgt := 78) rfl rfl ?_
                refine x_iret rfl rfl ?_
                exact jqe (show sp_owe a1 a2 a3 = 0 by unfold sp_owe; (repeat' split) <;> first | rfl | (exfalso; omega)) (hQ _ (by repeat (first | exact FM | refine jFb_si rfl ?_ | refine jFb_sl rfl ?_ | refine jFb_ci rfl ?_ | refine jFb_cl rfl ?_ | refine jFb_sr rfl ?_)) (by repeat (first | exact O | refine jOl_si rfl ?_ | refine jOl_sl rfl ?_ | refine jOl_ci rfl ?_ | refine jOl_cl rfl ?_ | refine jOl_sr rfl ?_)))
            ·
              refine x_aloadn (x := 86) rfl rfl ?_
              refine x_iconst (v := 1) rfl ki_1 ?_
              refine y_iald (v := 0) (N := 3) 1 rfl (F.1 86 (100, 3) rfl rfl) (jinb_of (by decide)) (by decide) (F.2.2.2.1 86 rfl rfl 1).1 ?_
              refine x_iloadn (x := 0) rfl rfl ?_
              refine x_icne (tgt := 33) rfl rfl (bn_f (by decide) ?_)
              refine x_aloadn (x := 86) rfl rfl ?_
              refine x_iconst (v := 2) rfl ki_2 ?_
              refine y_iald (v := 0) (N := 3) 2 rfl (F.1 86 (100, 3) rfl rfl) (jinb_of (by decide)) (by decide) (F.2.2.2.1 86 rfl rfl 2).1 ?_
              refine x_iloadn (x := 1) rfl rfl ?_
              refine x_icne (tgt := 33) rfl rfl (bn_t (by decide) ?_)
              refine x_iconst (v := 0) rfl ki_0 ?_
              refine x_istore (ls' := [(4, .int 0), (0, .ref 86), (1, .int a3), (2, .int 0), (3, .int 1)]) rfl rfl rfl ?_
              refine x_aloadn (x := 86) rfl rfl ?_
              refine x_iconst (v := 0) rfl ki_0 ?_
              refine x_iloadn (x := a3) rfl rfl ?_
              refine y_iast (N := 3) 0 rfl (F.1 86 (100, 3) rfl rfl) rfl (jinb_of (by decide)) (by decide) ?_
              refine x_aloadn (x := 86) rfl rfl ?_
              refine x_iconst (v := 1) rfl ki_1 ?_
              refine x_iloadn (x := 0) rfl rfl ?_
              refine y_iast (N := 3) 1 rfl (F.1 86 (100, 3) rfl rfl) rfl (jinb_of (by decide)) (by decide) ?_
              refine x_aloadn (x := 86) rfl rfl ?_
              refine x_iconst (v := 2) rfl ki_2 ?_
              refine x_iloadn (x := 1) rfl rfl ?_
              refine y_iast (N := 3) 2 rfl (F.1 86 (100, 3) rfl rfl) rfl (jinb_of (by decide)) (by decide) ?_
              refine x_iload (x := 0) rfl rfl ?_
              refine x_zret rfl rfl (by first | decide | exact jp_01 _) ?_
              show jX m_X7_asKnown 99 0 0 16 [(0, .ref 78), (1, .int a3)] [.int 0] _ 0 0 _
              refine x_ifeq (tgt := 20) rfl rfl (br_t (by decide) ?_)
              refine x_iconst (v := 0) rfl ki_0 ?_
              refine x_istoren (ls' := [(2, .int 0), (0, .ref 78), (1, .int a3)]) rfl rfl rfl ?_
              refine x_iloadn (x := 0) rfl rfl ?_
              refine x_aloadn (x := 78) rfl rfl ?_
              refine x_getR (b := 32) 7 0 rfl f_7_55 rfl (congrArg Prod.fst (F.1 78 (7, 16) rfl rfl)) (F.2.1 9984 32 rfl rfl) ?_
              refine x_getR (b := 33) 1 0 rfl f_7_63 rfl (congrArg Prod.fst (F.1 32 (1, 20) rfl rfl)) (F.2.1 4096 33 rfl rfl) ?_
              refine y_getI (v := 0) 8 3 rfl f_7_85 rfl (congrArg Prod.fst (F.1 33 (8, 4) rfl rfl)) (F.2.2.1 4227 0 rfl rfl) ?_
              refine x_iconst (v := 3) rfl ki_3 ?_
              refine y_imul (v := 0) rfl (by decide) ?_
              refine x_icge (tgt := 96) rfl rfl (br_t (by decide) ?_)
              refine x_aloadn (x := 78) rfl rfl ?_
              refine x_iconst (v := 0) rfl ki_0 ?_
              refine x_putI 7 13 rfl f_7_46 rfl (jfin_no TX7 RX7 16 rfl rfl) (congrArg Prod.fst (F.1 78 (7, 16) rfl rfl)) rfl ?_
              refine x_iconst (v := 0) rfl ki_0 ?_
              refine x_istoren (ls' := [(2, .int 0), (0, .ref 78), (1, .int a3)]) rfl rfl rfl ?_
              refine x_iloadn (x := 0) rfl rfl ?_
              refine x_aloadn (x := 78) rfl rfl ?_
              refine x_getR (b := 32) 7 0 rfl f_7_55 rfl (congrArg Prod.fst (F.1 78 (7, 16) rfl rfl)) (F.2.1 9984 32 rfl rfl) ?_
              refine x_getR (b := 39) 1 3 rfl f_7_150 rfl (congrArg Prod.fst (F.1 32 (1, 20) rfl rfl)) (F.2.1 4099 39 rfl rfl) ?_
              refine y_getI (v := 0) 8 3 rfl f_7_85 rfl (congrArg Prod.fst (F.1 39 (8, 4) rfl rfl)) (F.2.2.1 4995 0 rfl rfl) ?_
              refine x_icge (tgt := 175) rfl rfl (br_t (by decide) ?_)
              refine x_vret rfl rfl ?_
              show jX m_X11_owe 100 0 0 45 [(0, .ref 31), (1, .int a1), (2, .int a2), (3, .int a3)] [] _ 0 0 _
              refine x_aloadn (x := 31) rfl rfl ?_
              refine x_getR (b := 107) 11 8 rfl f_11_75 rfl (congrArg Prod.fst (F.1 31 (11, 13) rfl rfl)) (F.2.1 3976 107 rfl rfl) ?_
              refine x_iloadn (x := a1) rfl rfl ?_
              refine x_iloadn (x := a3) rfl rfl ?_
              refine x_inv (N := m_X4_partOut) (As := [.int a1, .int a3]) (b := 107) (st := []) (d' := 99) (mc := 0) (ms := 0) (host := "") 4 rfl t_X4_partOut ⟨Or.inl q_11_443, i_X4_partOut.1, i_X4_partOut.2⟩ ⟨by decide, rfl⟩ (congrArg Prod.fst (F.1 107 (4, 18) rfl rfl)) rfl (by decide) rfl rfl ⟨by decide, by decide⟩ (jC.of rfl k_X4_partOut rfl ?_)
              show jX m_X4_partOut 99 0 0 0 [(0, .ref 107), (1, .int a1), (2, .int a3)] [] _ 0 0 _
              refine x_aloadn (x := 107) rfl rfl ?_
              refine x_getR (b := 111) 4 6 rfl f_4_22 rfl (congrArg Prod.fst (F.1 107 (4, 18) rfl rfl)) (F.2.1 13702 111 rfl rfl) ?_
              refine x_iloadn (x := a1) rfl rfl ?_
              refine x_iloadn (x := a3) rfl rfl ?_
              refine x_aloadn (x := 107) rfl rfl ?_
              refine x_getR (b := 32) 4 0 rfl f_4_59 rfl (congrArg Prod.fst (F.1 107 (4, 18) rfl rfl)) (F.2.1 13696 32 rfl rfl) ?_
              refine y_getI (v := 1) 1 19 rfl f_4_88 rfl (congrArg Prod.fst (F.1 32 (1, 20) rfl rfl)) (F.2.2.1 4115 1 rfl rfl) ?_
              refine x_inst (N := m_X11_isFresh) (As := [.ref 111, .int a1, .int a3, .int 1]) (st := []) (d' := 98) (mc := 0) (ms := 0) (host := "ParishChest") rfl t_X11_isFresh ⟨Or.inr q_4_91, s_X11_isFresh⟩ rfl (by decide) rfl rfl ⟨by decide, by decide⟩ (jC.of rfl k_X11_isFresh rfl ?_)
              show jX m_X11_isFresh 98 0 0 0 [(0, .ref 111), (1, .int a1), (2, .int a3), (3, .int 1)] [] _ 0 0 _
              refine x_aloadn (x := 111) rfl rfl ?_
              refine y_alen (N := 3) (v := 3) rfl (F.1 111 (100, 3) rfl rfl) (by decide) (by decide) ?_
              refine x_iconst (v := 3) rfl ki_3 ?_
              refine x_icge (tgt := 8) rfl rfl (br_t (by decide) ?_)
              refine x_aloadn (x := 111) rfl rfl ?_
              refine x_iconst (v := 0) rfl ki_0 ?_
              refine y_iald (v := 0) (N := 3) 0 rfl (F.1 111 (100, 3) rfl rfl) (jinb_of (by decide)) (by decide) (F.2.2.2.1 111 rfl rfl 0).1 ?_
              refine x_iloadn (x := a1) rfl rfl ?_
              refine x_icne (tgt := 33) rfl rfl (ti_ne (show (0 : Int32).toInt = 0 by decide) (show (a1 : Int32).toInt = a1.toInt from rfl) ⟨fun c8 => ?_, fun c8 => ?_⟩)
              ·
                refine x_iconst (v := 0) rfl ki_0 ?_
                refine x_istore (ls' := [(4, .int 0), (0, .ref 111), (1, .int a1), (2, .int a3), (3, .int 1)]) rfl rfl rfl ?_
                refine x_aloadn (x := 111) rfl rfl ?_
                refine x_iconst (v := 0) rfl ki_0 ?_
                refine x_iloadn (x := a1) rfl rfl ?_
                refine y_iast (N := 3) 0 rfl (F.1 111 (100, 3) rfl rfl) rfl (jinb_of (by decide)) (by decide) ?_
                refine x_aloadn (x := 111) rfl rfl ?_
                refine x_iconst (v := 1) rfl ki_1 ?_
                refine x_iloadn (x := a3) rfl rfl ?_
                refine y_iast (N := 3) 1 rfl (F.1 111 (100, 3) rfl rfl) rfl (jinb_of (by decide)) (by decide) ?_
                refine x_aloadn (x := 111) rfl rfl ?_
                refine x_iconst (v := 2) rfl ki_2 ?_
                refine x_iloadn (x := 1) rfl rfl ?_
                refine y_iast (N := 3) 2 rfl (F.1 111 (100, 3) rfl rfl) rfl (jinb_of (by decide)) (by decide) ?_
                refine x_iload (x := 0) rfl rfl ?_
                refine x_zret rfl rfl (by first | decide | exact jp_01 _) ?_
                show jX m_X4_partOut 99 0 0 16 [(0, .ref 107), (1, .int a1), (2, .int a3)] [.int 0] _ 0 0 _
                refine x_ifeq (tgt := 20) rfl rfl (br_t (by decide) ?_)
                refine x_aloadn (x := 107) rfl rfl ?_
                refine x_getR (b := 32) 4 0 rfl f_4_59 rfl (congrArg Prod.fst (F.1 107 (4, 18) rfl rfl)) (F.2.1 13696 32 rfl rfl) ?_
                refine x_getR (b := 53) 1 10 rfl f_4_95 rfl (congrArg Prod.fst (F.1 32 (1, 20) rfl rfl)) (F.2.1 4106 53 rfl rfl) ?_
                refine x_iloadn (x := a1) rfl rfl ?_
                refine x_iconst (v := 2) rfl ki_2 ?_
                refine x_inv (N := m_X8_at) (As := [.int a1, .int 2]) (b := 53) (st := []) (d' := 98) (mc := 0) (ms := 0) (host := "") 8 rfl t_X8_at ⟨Or.inl q_4_98, i_X8_at.1, i_X8_at.2⟩ ⟨by decide, rfl⟩ (congrArg Prod.fst (F.1 53 (8, 4) rfl rfl)) rfl (by decide) rfl rfl ⟨by decide, by decide⟩ (jC.of rfl k_X8_at rfl ?_)
                show jX m_X8_at 98 0 0 0 [(0, .ref 53), (1, .int a1), (2, .int 2)] [] _ 0 0 _
                refine x_iloadn (x := a1) rfl rfl ?_
                refine x_iflt (tgt := 24) rfl rfl (ti_lt (show (a1 : Int32).toInt = a1.toInt from rfl) (show (0 : Int32).toInt = 0 by decide) (br_f c2 ?_))
                refine x_iloadn (x := a1) rfl rfl ?_
                refine x_aloadn (x := 53) rfl rfl ?_
                refine y_getI (v := 0) 8 3 rfl f_8_7 rfl (congrArg Prod.fst (F.1 53 (8, 4) rfl rfl)) (F.2.2.1 6787 0 rfl rfl) ?_
                refine x_icge (tgt := 24) rfl rfl (ti_ge (show (a1 : Int32).toInt = a1.toInt from rfl) (show (0 : Int32).toInt = 0 by decide) (br_f c3 ?_))
                refine x_iloadn (x := 2) rfl rfl ?_
                refine x_iflt (tgt := 24) rfl rfl (br_f (by decide) ?_)
                refine x_iloadn (x := 2) rfl rfl ?_
                refine x_aloadn (x := 53) rfl rfl ?_
                refine y_getI (v := 4) 8 0 rfl f_8_19 rfl (congrArg Prod.fst (F.1 53 (8, 4) rfl rfl)) (F.2.2.1 6784 4 rfl rfl) ?_
                refine x_iclt (tgt := 26) rfl rfl (br_t (by decide) ?_)
                refine x_aloadn (x := 53) rfl rfl ?_
                refine x_getR (b := 54) 8 2 rfl f_8_25 rfl (congrArg Prod.fst (F.1 53 (8, 4) rfl rfl)) (F.2.1 6786 54 rfl rfl) ?_
                refine x_iloadn (x := a1) rfl rfl ?_
                refine x_aloadn (x := 53) rfl rfl ?_
                refine y_getI (v := 4) 8 0 rfl f_8_19 rfl (congrArg Prod.fst (F.1 53 (8, 4) rfl rfl)) (F.2.2.1 6784 4 rfl rfl) ?_
                refine x_imul rfl ?_
                refine x_iloadn (x := 2) rfl rfl ?_
                refine x_iadd rfl ?_
                refine y_iald (v := 0) (N := 160) ((a1 * 4) + 2).toNatClampNeg rfl (F.1 54 (100, 160) rfl rfl) (vpi (by omega)) rfl (F.2.2.2.1 54 rfl rfl _).1 ?_
                refine x_iret rfl rfl ?_
                show jX m_X4_partOut 99 0 0 32 [(0, .ref 107), (1, .int a1), (2, .int a3)] [.int 0] _ 0 0 _
                refine x_istoren (ls' := [(3, .int 0), (0, .ref 107), (1, .int a1), (2, .int a3)]) rfl rfl rfl ?_
                refine x_aloadn (x := 107) rfl rfl ?_
                refine x_getR (b := 32) 4 0 rfl f_4_59 rfl (congrArg Prod.fst (F.1 107 (4, 18) rfl rfl)) (F.2.1 13696 32 rfl rfl) ?_
                refine x_getR (b := 53) 1 10 rfl f_4_95 rfl (congrArg Prod.fst (F.1 32 (1, 20) rfl rfl)) (F.2.1 4106 53 rfl rfl) ?_
                refine x_iloadn (x := a1) rfl rfl ?_
                refine x_iconst (v := 3) rfl ki_3 ?_
                refine x_inv (N := m_X8_at) (As := [.int a1, .int 3]) (b := 53) (st := []) (d' := 98) (mc := 0) (ms := 0) (host := "") 8 rfl t_X8_at ⟨Or.inl q_4_98, i_X8_at.1, i_X8_at.2⟩ ⟨by decide, rfl⟩ (congrArg Prod.fst (F.1 53 (8, 4) rfl rfl)) rfl (by decide) rfl rfl ⟨by decide, by decide⟩ (jC.of rfl k_X8_at rfl ?_)
                show jX m_X8_at 98 0 0 0 [(0, .ref 53), (1, .int a1), (2, .int 3)] [] _ 0 0 _
                refine x_iloadn (x := a1) rfl rfl ?_
                refine x_iflt (tgt := 24) rfl rfl (ti_lt (show (a1 : Int32).toInt = a1.toInt from rfl) (show (0 : Int32).toInt = 0 by decide) (br_f c2 ?_))
                refine x_iloadn (x := a1) rfl rfl ?_
                refine x_aloadn (x := 53) rfl rfl ?_
                refine y_getI (v := 0) 8 3 rfl f_8_7 rfl (congrArg Prod.fst (F.1 53 (8, 4) rfl rfl)) (F.2.2.1 6787 0 rfl rfl) ?_
                refine x_icge (tgt := 24) rfl rfl (ti_ge (show (a1 : Int32).toInt = a1.toInt from rfl) (show (0 : Int32).toInt = 0 by decide) (br_f c3 ?_))
                refine x_iloadn (x := 3) rfl rfl ?_
                refine x_iflt (tgt := 24) rfl rfl (br_f (by decide) ?_)
                refine x_iloadn (x := 3) rfl rfl ?_
                refine x_aloadn (x := 53) rfl rfl ?_
                refine y_getI (v := 4) 8 0 rfl f_8_19 rfl (congrArg Prod.fst (F.1 53 (8, 4) rfl rfl)) (F.2.2.1 6784 4 rfl rfl) ?_
                refine x_iclt (tgt := 26) rfl rfl (br_t (by decide) ?_)
                refine x_aloadn (x := 53) rfl rfl ?_
                refine x_getR (b := 54) 8 2 rfl f_8_25 rfl (congrArg Prod.fst (F.1 53 (8, 4) rfl rfl)) (F.2.1 6786 54 rfl rfl) ?_
                refine x_iloadn (x := a1) rfl rfl ?_
                refine x_aloadn (x := 53) rfl rfl ?_
                refine y_getI (v := 4) 8 0 rfl f_8_19 rfl (congrArg Prod.fst (F.1 53 (8, 4) rfl rfl)) (F.2.2.1 6784 4 rfl rfl) ?_
                refine x_imul rfl ?_
                refine x_iloadn (x := 3) rfl rfl ?_
                refine x_iadd rfl ?_
                refine y_iald (v := 0) (N := 160) ((a1 * 4) + 3).toNatClampNeg rfl (F.1 54 (100, 160) rfl rfl) (vpi (by omega)) rfl (F.2.2.2.1 54 rfl rfl _).1 ?_
                refine x_iret rfl rfl ?_
                show jX m_X4_partOut 99 0 0 45 [(3, .int 0), (0, .ref 107), (1, .int a1), (2, .int a3)] [.int 0] _ 0 0 _
                refine x_istore (ls' := [(4, .int 0), (3, .int 0), (0, .ref 107), (1, .int a1), (2, .int a3)]) rfl rfl rfl ?_
                refine x_aloadn (x := 107) rfl rfl ?_
                refine x_getR (b := 98) 4 2 rfl f_4_67 rfl (congrArg Prod.fst (F.1 107 (4, 18) rfl rfl)) (F.2.1 13698 98 rfl rfl) ?_
                refine x_aloadn (x := 107) rfl rfl ?_
                refine x_getR (b := 32) 4 0 rfl f_4_59 rfl (congrArg Prod.fst (F.1 107 (4, 18) rfl rfl)) (F.2.1 13696 32 rfl rfl) ?_
                refine x_getR (b := 53) 1 10 rfl f_4_95 rfl (congrArg Prod.fst (F.1 32 (1, 20) rfl rfl)) (F.2.1 4106 53 rfl rfl) ?_
                refine x_iloadn (x := a1) rfl rfl ?_
                refine x_iconst (v := 1) rfl ki_1 ?_
                refine x_inv (N := m_X8_at) (As := [.int a1, .int 1]) (b := 53) (st := [.ref 98]) (d' := 98) (mc := 0) (ms := 0) (host := "") 8 rfl t_X8_at ⟨Or.inl q_4_98, i_X8_at.1, i_X8_at.2⟩ ⟨by decide, rfl⟩ (congrArg Prod.fst (F.1 53 (8, 4) rfl rfl)) rfl (by decide) rfl rfl ⟨by decide, by decide⟩ (jC.of rfl k_X8_at rfl ?_)
                show jX m_X8_at 98 0 0 0 [(0, .ref 53), (1, .int a1), (2, .int 1)] [] _ 0 0 _
                refine x_iloadn (x := a1) rfl rfl ?_
                refine x_iflt (tgt := 24) rfl rfl (ti_lt (show (a1 : Int32).toInt = a1.toInt from rfl) (show (0 : Int32).toInt = 0 by decide) (br_f c2 ?_))
                refine x_iloadn (x := a1) rfl rfl ?_
                refine x_aloadn (x := 53) rfl rfl ?_
                refine y_getI (v := 0) 8 3 rfl f_8_7 rfl (congrArg Prod.fst (F.1 53 (8, 4) rfl rfl)) (F.2.2.1 6787 0 rfl rfl) ?_
                refine x_icge (tgt := 24) rfl rfl (ti_ge (show (a1 : Int32).toInt = a1.toInt from rfl) (show (0 : Int32).toInt = 0 by decide) (br_f c3 ?_))
                refine x_iloadn (x := 1) rfl rfl ?_
                refine x_iflt (tgt := 24) rfl rfl (br_f (by decide) ?_)
                refine x_iloadn (x := 1) rfl rfl ?_
                refine x_aloadn (x := 53) rfl rfl ?_
                refine y_getI (v := 4) 8 0 rfl f_8_19 rfl (congrArg Prod.fst (F.1 53 (8, 4) rfl rfl)) (F.2.2.1 6784 4 rfl rfl) ?_
                refine x_iclt (tgt := 26) rfl rfl (br_t (by decide) ?_)
                refine x_aloadn (x := 53) rfl rfl ?_
                refine x_getR (b := 54) 8 2 rfl f_8_25 rfl (congrArg Prod.fst (F.1 53 (8, 4) rfl rfl)) (F.2.1 6786 54 rfl rfl) ?_
                refine x_iloadn (x := a1) rfl rfl ?_
                refine x_aloadn (x := 53) rfl rfl ?_
                refine y_getI (v := 4) 8 0 rfl f_8_19 rfl (congrArg Prod.fst (F.1 53 (8, 4) rfl rfl)) (F.2.2.1 6784 4 rfl rfl) ?_
                refine x_imul rfl ?_
                refine x_iloadn (x := 1) rfl rfl ?_
                refine x_iadd rfl ?_
                refine y_iald (v := 0) (N := 160) ((a1 * 4) + 1).toNatClampNeg rfl (F.1 54 (100, 160) rfl rfl) (vpi (by omega)) rfl (F.2.2.2.1 54 rfl rfl _).1 ?_
                refine x_iret rfl rfl ?_
                show jX m_X4_partOut 99 0 0 63 [(4, .int 0), (3, .int 0), (0, .ref 107), (1, .int a1), (2, .int a3)] [.int 0, .ref 98] _ 0 0 _
                refine x_sipush (v := 366) rfl ks_366 ?_
                refine y_imul (v := 0) rfl (by decide) ?_
                refine x_iloadn (x := a3) rfl rfl ?_
                refine x_inv (N := m_X0_turnTo) (As := [.int 0, .int a3]) (b := 98) (st := []) (d' := 98) (mc := 0) (ms := 0) (host := "") 0 rfl t_X0_turnTo ⟨Or.inl q_4_101, i_X0_turnTo.1, i_X0_turnTo.2⟩ ⟨by decide, rfl⟩ (congrArg Prod.fst (F.1 98 (0, 16) rfl rfl)) rfl (by decide) rfl rfl ⟨by decide, by decide⟩ (jC.of rfl k_X0_turnTo rfl ?_)
                show jX m_X0_turnTo 98 0 0 0 [(0, .ref 98), (1, .int 0), (2, .int a3)] [] _ 0 0 _
                refine x_aloadn (x := 98) rfl rfl ?_
                refine x_iloadn (x := 0) rfl rfl ?_
                refine x_iloadn (x := a3) rfl rfl ?_
                refine x_inv (N := m_X0_readLaws) (As := [.int 0, .int a3]) (b := 98) (st := []) (d' := 97) (mc := 0) (ms := 0) (host := "") 0 rfl t_X0_readLaws ⟨Or.inl q_0_65, i_X0_readLaws.1, i_X0_readLaws.2⟩ ⟨by decide, rfl⟩ (congrArg Prod.fst (F.1 98 (0, 16) rfl rfl)) rfl (by decide) rfl rfl ⟨by decide, by decide⟩ (jC.of rfl k_X0_readLaws rfl ?_)
                show jX m_X0_readLaws 97 0 0 0 [(0, .ref 98), (1, .int 0), (2, .int a3)] [] _ 0 0 _
                refine x_aloadn (x := 98) rfl rfl ?_
                refine x_iloadn (x := 0) rfl rfl ?_
                refine x_putI 0 10 rfl f_0_37 rfl (jfin_no TX0 RX0 16 rfl rfl) (congrArg Prod.fst (F.1 98 (0, 16) rfl rfl)) rfl ?_
                refine x_aloadn (x := 98) rfl rfl ?_
                refine x_iloadn (x := a3) rfl rfl ?_
                refine x_putI 0 11 rfl f_0_41 rfl (jfin_no TX0 RX0 16 rfl rfl) (congrArg Prod.fst (F.1 98 (0, 16) rfl rfl)) rfl ?_
                refine x_aloadn (x := 98) rfl rfl ?_
                refine x_getR (b := 101) 0 4 rfl f_0_18 rfl (congrArg Prod.fst (F.1 98 (0, 16) rfl rfl)) (F.2.1 12548 101 rfl rfl) ?_
                refine x_aloadn (x := 98) rfl rfl ?_
                refine y_getI (v := 0) 0 10 rfl f_0_37 rfl (congrArg Prod.fst (F.1 98 (0, 16) rfl rfl)) rfl ?_
                refine x_aloadn (x := 98) rfl rfl ?_
                refine y_getI (v := a3) 0 11 rfl f_0_41 rfl (congrArg Prod.fst (F.1 98 (0, 16) rfl rfl)) rfl ?_
                refine x_aloadn (x := 98) rfl rfl ?_
                refine x_getR (b := 32) 0 0 rfl f_0_57 rfl (congrArg Prod.fst (F.1 98 (0, 16) rfl rfl)) (F.2.1 12544 32 rfl rfl) ?_
                refine y_getI (v := 1) 1 19 rfl f_0_81 rfl (congrArg Prod.fst (F.1 32 (1, 20) rfl rfl)) (F.2.2.1 4115 1 rfl rfl) ?_
                refine x_inst (N := m_X11_isFresh) (As := [.ref 101, .int 0, .int a3, .int 1]) (st := []) (d' := 96) (mc := 0) (ms := 0) (host := "ParishChest") rfl t_X11_isFresh ⟨Or.inr q_0_84, s_X11_isFresh⟩ rfl (by decide) rfl rfl ⟨by decide, by decide⟩ (jC.of rfl k_X11_isFresh rfl ?_)
                show jX m_X11_isFresh 96 0 0 0 [(0, .ref 101), (1, .int 0), (2, .int a3), (3, .int 1)] [] _ 0 0 _
                refine x_aloadn (x := 101) rfl rfl ?_
                refine y_alen (N := 3) (v := 3) rfl (F.1 101 (100, 3) rfl rfl) (by decide) (by decide) ?_
                refine x_iconst (v := 3) rfl ki_3 ?_
                refine x_icge (tgt := 8) rfl rfl (br_t (by decide) ?_)
                refine x_aloadn (x := 101) rfl rfl ?_
                refine x_iconst (v := 0) rfl ki_0 ?_
                refine y_iald (v := 0) (N := 3) 0 rfl (F.1 101 (100, 3) rfl rfl) (jinb_of (by decide)) (by decide) (F.2.2.2.1 101 rfl rfl 0).1 ?_
                refine x_iloadn (x := 0) rfl rfl ?_
                refine x_icne (tgt := 33) rfl rfl (bn_f (by decide) ?_)
                refine x_aloadn (x := 101) rfl rfl ?_
                refine x_iconst (v := 1) rfl ki_1 ?_
                refine y_iald (v := 0) (N := 3) 1 rfl (F.1 101 (100, 3) rfl rfl) (jinb_of (by decide)) (by decide) (F.2.2.2.1 101 rfl rfl 1).1 ?_
                refine x_iloadn (x := a3) rfl rfl ?_
                refine x_icne (tgt := 33) rfl rfl (ti_ne (show (0 : Int32).toInt = 0 by decide) (show (a3 : Int32).toInt = a3.toInt from rfl) (bn_f c6 ?_))
                refine x_aloadn (x := 101) rfl rfl ?_
                refine x_iconst (v := 2) rfl ki_2 ?_
                refine y_iald (v := 0) (N := 3) 2 rfl (F.1 101 (100, 3) rfl rfl) (jinb_of (by decide)) (by decide) (F.2.2.2.1 101 rfl rfl 2).1 ?_
                refine x_iloadn (x := 1) rfl rfl ?_
                refine x_icne (tgt := 33) rfl rfl (bn_t (by decide) ?_)
                refine x_iconst (v := 0) rfl ki_0 ?_
                refine x_istore (ls' := [(4, .int 0), (0, .ref 101), (1, .int 0), (2, .int a3), (3, .int 1)]) rfl rfl rfl ?_
                refine x_aloadn (x := 101) rfl rfl ?_
                refine x_iconst (v := 0) rfl ki_0 ?_
                refine x_iloadn (x := 0) rfl rfl ?_
                refine y_iast (N := 3) 0 rfl (F.1 101 (100, 3) rfl rfl) rfl (jinb_of (by decide)) (by decide) ?_
                refine x_aloadn (x := 101) rfl rfl ?_
                refine x_iconst (v := 1) rfl ki_1 ?_
                refine x_iloadn (x := a3) rfl rfl ?_
                refine y_iast (N := 3) 1 rfl (F.1 101 (100, 3) rfl rfl) rfl (jinb_of (by decide)) (by decide) ?_
                refine x_aloadn (x := 101) rfl rfl ?_
                refine x_iconst (v := 2) rfl ki_2 ?_
                refine x_iloadn (x := 1) rfl rfl ?_
                refine y_iast (N := 3) 2 rfl (F.1 101 (100, 3) rfl rfl) rfl (jinb_of (by decide)) (by decide) ?_
                refine x_iload (x := 0) rfl rfl ?_
                refine x_zret rfl rfl (by first | decide | exact jp_01 _) ?_
                show jX m_X0_readLaws 97 0 0 32 [(0, .ref 98), (1, .int 0), (2, .int a3)] [.int 0] _ 0 0 _
                refine x_ifeq (tgt := 36) rfl rfl (br_t (by decide) ?_)
                refine x_bipush (v := 30) rfl kb_30 ?_
                refine x_aloadn (x := 98) rfl rfl ?_
                refine x_getR (b := 32) 0 0 rfl f_0_57 rfl (congrArg Prod.fst (F.1 98 (0, 16) rfl rfl)) (F.2.1 12544 32 rfl rfl) ?_
                refine y_getI (v := 0) 1 18 rfl f_0_72 rfl (congrArg Prod.fst (F.1 32 (1, 20) rfl rfl)) (F.2.2.1 4114 0 rfl rfl) ?_
                refine x_inst (N := m_J9_min_7cf53) (As := [.int 30, .int 0]) (st := []) (d' := 96) (mc := 0) (ms := 0) (host := "") rfl t_J9_min_7cf53 ⟨Or.inl q_0_88, s_J9_min_7cf53⟩ rfl (by decide) rfl rfl ⟨by decide, by decide⟩ (jC.of rfl k_J9_min_7cf53 rfl ?_)
                show jX m_J9_min_7cf53 96 0 0 0 [(0, .int 30), (1, .int 0)] [] _ 0 0 _
                refine x_iloadn (x := 30) rfl rfl ?_
                refine x_iloadn (x := 0) rfl rfl ?_
                refine x_icgt (tgt := 9) rfl rfl (br_t (by decide) ?_)
                refine x_iloadn (x := 0) rfl rfl ?_
                refine x_iret rfl rfl ?_
                show jX m_X0_readLaws 97 0 0 48 [(0, .ref 98), (1, .int 0), (2, .int a3)] [.int 0] _ 0 0 _
                refine x_istoren (ls' := [(3, .int 0), (0, .ref 98), (1, .int 0), (2, .int a3)]) rfl rfl rfl ?_
                refine x_iconst (v := 0) rfl ki_0 ?_
                refine x_istore (ls' := [(4, .int 0), (3, .int 0), (0, .ref 98), (1, .int 0), (2, .int a3)]) rfl rfl rfl ?_
                refine x_iload (x := 0) rfl rfl ?_
                refine x_iloadn (x := 0) rfl rfl ?_
                refine x_icge (tgt := 80) rfl rfl (br_t (by decide) ?_)
                refine x_iloadn (x := 0) rfl rfl ?_
                refine x_iconst (v := 1) rfl ki_1 ?_
                refine y_isub (v := (-1)) rfl (by decide) ?_
                refine x_istore (ls' := [(4, .int (-1)), (3, .int 0), (0, .ref 98), (1, .int 0), (2, .int a3)]) rfl rfl rfl ?_
                refine x_iload (x := (-1)) rfl rfl ?_
                refine x_iflt (tgt := 167) rfl rfl (br_t (by decide) ?_)
                refine x_vret rfl rfl ?_
                show jX m_X0_turnTo 98 0 0 6 [(0, .ref 98), (1, .int 0), (2, .int a3)] [] _ 0 0 _
                refine x_aloadn (x := 98) rfl rfl ?_
                refine x_iloadn (x := 0) rfl rfl ?_
                refine x_iloadn (x := a3) rfl rfl ?_
                refine x_inv (N := m_X0_readHouses) (As := [.int 0, .int a3]) (b := 98) (st := []) (d' := 97) (mc := 0) (ms := 0) (host := "") 0 rfl t_X0_readHouses ⟨Or.inl q_0_69, i_X0_readHouses.1, i_X0_readHouses.2⟩ ⟨by decide, rfl⟩ (congrArg Prod.fst (F.1 98 (0, 16) rfl rfl)) rfl (by decide) rfl rfl ⟨by decide, by decide⟩ (jC.of rfl k_X0_readHouses rfl ?_)
                show jX m_X0_readHouses 97 0 0 0 [(0, .ref 98), (1, .int 0), (2, .int a3)] [] _ 0 0 _
                refine x_aloadn (x := 98) rfl rfl ?_
                refine x_iloadn (x := 0) rfl rfl ?_
                refine x_putI 0 10 rfl f_0_37 rfl (jfin_no TX0 RX0 16 rfl rfl) (congrArg Prod.fst (F.1 98 (0, 16) rfl rfl)) rfl ?_
                refine x_aloadn (x := 98) rfl rfl ?_
                refine x_iloadn (x := a3) rfl rfl ?_
                refine x_putI 0 11 rfl f_0_41 rfl (jfin_no TX0 RX0 16 rfl rfl) (congrArg Prod.fst (F.1 98 (0, 16) rfl rfl)) rfl ?_
                refine x_aloadn (x := 98) rfl rfl ?_
                refine x_getR (b := 105) 0 8 rfl f_0_30 rfl (congrArg Prod.fst (F.1 98 (0, 16) rfl rfl)) (F.2.1 12552 105 rfl rfl) ?_
                refine x_aloadn (x := 98) rfl rfl ?_
                refine y_getI (v := 0) 0 10 rfl f_0_37 rfl (congrArg Prod.fst (F.1 98 (0, 16) rfl rfl)) rfl ?_
                refine x_aloadn (x := 98) rfl rfl ?_
                refine y_getI (v := a3) 0 11 rfl f_0_41 rfl (congrArg Prod.fst (F.1 98 (0, 16) rfl rfl)) rfl ?_
                refine x_aloadn (x := 98) rfl rfl ?_
                refine x_getR (b := 32) 0 0 rfl f_0_57 rfl (congrArg Prod.fst (F.1 98 (0, 16) rfl rfl)) (F.2.1 12544 32 rfl rfl) ?_
                refine y_getI (v := 1) 1 19 rfl f_0_81 rfl (congrArg Prod.fst (F.1 32 (1, 20) rfl rfl)) (F.2.2.1 4115 1 rfl rfl) ?_
                refine x_inst (N := m_X11_isFresh) (As := [.ref 105, .int 0, .int a3, .int 1]) (st := []) (d' := 96) (mc := 0) (ms := 0) (host := "ParishChest") rfl t_X11_isFresh ⟨Or.inr q_0_84, s_X11_isFresh⟩ rfl (by decide) rfl rfl ⟨by decide, by decide⟩ (jC.of rfl k_X11_isFresh rfl ?_)
                show jX m_X11_isFresh 96 0 0 0 [(0, .ref 105), (1, .int 0), (2, .int a3), (3, .int 1)] [] _ 0 0 _
                refine x_aloadn (x := 105) rfl rfl ?_
                refine y_alen (N := 3) (v := 3) rfl (F.1 105 (100, 3) rfl rfl) (by decide) (by decide) ?_
                refine x_iconst (v := 3) rfl ki_3 ?_
                refine x_icge (tgt := 8) rfl rfl (br_t (by decide) ?_)
                refine x_aloadn (x := 105) rfl rfl ?_
                refine x_iconst (v := 0) rfl ki_0 ?_
                refine y_iald (v := 0) (N := 3) 0 rfl (F.1 105 (100, 3) rfl rfl) (jinb_of (by decide)) (by decide) (F.2.2.2.1 105 rfl rfl 0).1 ?_
                refine x_iloadn (x := 0) rfl rfl ?_
                refine x_icne (tgt := 33) rfl rfl (bn_f (by decide) ?_)
                refine x_aloadn (x := 105) rfl rfl ?_
                refine x_iconst (v := 1) rfl ki_1 ?_
                refine y_iald (v := 0) (N := 3) 1 rfl (F.1 105 (100, 3) rfl rfl) (jinb_of (by decide)) (by decide) (F.2.2.2.1 105 rfl rfl 1).1 ?_
                refine x_iloadn (x := a3) rfl rfl ?_
                refine x_icne (tgt := 33) rfl rfl (ti_ne (show (0 : Int32).toInt = 0 by decide) (show (a3 : Int32).toInt = a3.toInt from rfl) (bn_f c6 ?_))
                refine x_aloadn (x := 105) rfl rfl ?_
                refine x_iconst (v := 2) rfl ki_2 ?_
                refine y_iald (v := 0) (N := 3) 2 rfl (F.1 105 (100, 3) rfl rfl) (jinb_of (by decide)) (by decide) (F.2.2.2.1 105 rfl rfl 2).1 ?_
                refine x_iloadn (x := 1) rfl rfl ?_
                refine x_icne (tgt := 33) rfl rfl (bn_t (by decide) ?_)
                refine x_iconst (v := 0) rfl ki_0 ?_
                refine x_istore (ls' := [(4, .int 0), (0, .ref 105), (1, .int 0), (2, .int a3), (3, .int 1)]) rfl rfl rfl ?_
                refine x_aloadn (x := 105) rfl rfl ?_
                refine x_iconst (v := 0) rfl ki_0 ?_
                refine x_iloadn (x := 0) rfl rfl ?_
                refine y_iast (N := 3) 0 rfl (F.1 105 (100, 3) rfl rfl) rfl (jinb_of (by decide)) (by decide) ?_
                refine x_aloadn (x := 105) rfl rfl ?_
                refine x_iconst (v := 1) rfl ki_1 ?_
                refine x_iloadn (x := a3) rfl rfl ?_
                refine y_iast (N := 3) 1 rfl (F.1 105 (100, 3) rfl rfl) rfl (jinb_of (by decide)) (by decide) ?_
                refine x_aloadn (x := 105) rfl rfl ?_
                refine x_iconst (v := 2) rfl ki_2 ?_
                refine x_iloadn (x := 1) rfl rfl ?_
                refine y_iast (N := 3) 2 rfl (F.1 105 (100, 3) rfl rfl) rfl (jinb_of (by decide)) (by decide) ?_
                refine x_iload (x := 0) rfl rfl ?_
                refine x_zret rfl rfl (by first | decide | exact jp_01 _) ?_
                show jX m_X0_readHouses 97 0 0 32 [(0, .ref 98), (1, .int 0), (2, .int a3)] [.int 0] _ 0 0 _
                refine x_ifeq (tgt := 36) rfl rfl (br_t (by decide) ?_)
                refine x_bipush (v := 40) rfl kb_40 ?_
                refine x_aloadn (x := 98) rfl rfl ?_
                refine x_getR (b := 32) 0 0 rfl f_0_57 rfl (congrArg Prod.fst (F.1 98 (0, 16) rfl rfl)) (F.2.1 12544 32 rfl rfl) ?_
                refine x_getR (b := 49) 1 8 rfl f_0_120 rfl (congrArg Prod.fst (F.1 32 (1, 20) rfl rfl)) (F.2.1 4104 49 rfl rfl) ?_
                refine y_getI (v := 0) 8 3 rfl f_0_124 rfl (congrArg Prod.fst (F.1 49 (8, 4) rfl rfl)) (F.2.2.1 6275 0 rfl rfl) ?_
                refine x_inst (N := m_J9_min_7cf53) (As := [.int 40, .int 0]) (st := []) (d' := 96) (mc := 0) (ms := 0) (host := "") rfl t_J9_min_7cf53 ⟨Or.inl q_0_88, s_J9_min_7cf53⟩ rfl (by decide) rfl rfl ⟨by decide, by decide⟩ (jC.of rfl k_J9_min_7cf53 rfl ?_)
                show jX m_J9_min_7cf53 96 0 0 0 [(0, .int 40), (1, .int 0)] [] _ 0 0 _
                refine x_iloadn (x := 40) rfl rfl ?_
                refine x_iloadn (x := 0) rfl rfl ?_
                refine x_icgt (tgt := 9) rfl rfl (br_t (by decide) ?_)
                refine x_iloadn (x := 0) rfl rfl ?_
                refine x_iret rfl rfl ?_
                show jX m_X0_readHouses 97 0 0 51 [(0, .ref 98), (1, .int 0), (2, .int a3)] [.int 0] _ 0 0 _
                refine x_istoren (ls' := [(3, .int 0), (0, .ref 98), (1, .int 0), (2, .int a3)]) rfl rfl rfl ?_
                refine x_aloadn (x := 98) rfl rfl ?_
                refine x_aloadn (x := 98) rfl rfl ?_
                refine x_getR (b := 32) 0 0 rfl f_0_57 rfl (congrArg Prod.fst (F.1 98 (0, 16) rfl rfl)) (F.2.1 12544 32 rfl rfl) ?_
                refine x_getR (b := 47) 1 7 rfl f_0_129 rfl (congrArg Prod.fst (F.1 32 (1, 20) rfl rfl)) (F.2.1 4103 47 rfl rfl) ?_
                refine x_iconst (v := 3) rfl ki_3 ?_
                refine x_aloadn (x := 98) rfl rfl ?_
                refine x_getR (b := 102) 0 5 rfl f_0_21 rfl (congrArg Prod.fst (F.1 98 (0, 16) rfl rfl)) (F.2.1 12549 102 rfl rfl) ?_
                refine x_iconst (v := 0) rfl ki_0 ?_
                refine x_inv (N := m_X0_readLatest) (As := [.ref 47, .int 3, .ref 102, .int 0]) (b := 98) (st := []) (d' := 96) (mc := 0) (ms := 0) (host := "") 0 rfl t_X0_readLatest ⟨Or.inl q_0_132, i_X0_readLatest.1, i_X0_readLatest.2⟩ ⟨by decide, rfl⟩ (congrArg Prod.fst (F.1 98 (0, 16) rfl rfl)) rfl (by decide) rfl rfl ⟨by decide, by decide⟩ (jC.of rfl k_X0_readLatest rfl ?_)
                show jX m_X0_readLatest 96 0 0 0 [(0, .ref 98), (1, .ref 47), (2, .int 3), (3, .ref 102), (4, .int 0)] [] _ 0 0 _
                refine x_iconst (v := 0) rfl ki_0 ?_
                refine x_istore (ls' := [(5, .int 0), (0, .ref 98), (1, .ref 47), (2, .int 3), (3, .ref 102), (4, .int 0)]) rfl rfl rfl ?_
                refine x_iload (x := 0) rfl rfl ?_
                refine x_bipush (v := 40) rfl kb_40 ?_
                refine x_icge (tgt := 52) rfl rfl (br_f (by decide) ?_)
                refine x_iload (x := 0) rfl rfl ?_
                refine x_aloadn (x := 98) rfl rfl ?_
                refine x_getR (b := 32) 0 0 rfl f_0_57 rfl (congrArg Prod.fst (F.1 98 (0, 16) rfl rfl)) (F.2.1 12544 32 rfl rfl) ?_
                refine x_getR (b := 49) 1 8 rfl f_0_120 rfl (congrArg Prod.fst (F.1 32 (1, 20) rfl rfl)) (F.2.1 4104 49 rfl rfl) ?_
                refine y_getI (v := 0) 8 3 rfl f_0_124 rfl (congrArg Prod.fst (F.1 49 (8, 4) rfl rfl)) (F.2.2.1 6275 0 rfl rfl) ?_
                refine x_icge (tgt := 52) rfl rfl (br_t (by decide) ?_)
                refine x_iconst (v := 0) rfl ki_0 ?_
                refine x_istore (ls' := [(5, .int 0), (0, .ref 98), (1, .ref 47), (2, .int 3), (3, .ref 102), (4, .int 0)]) rfl rfl rfl ?_
                refine x_iload (x := 0) rfl rfl ?_
                refine x_aloadn (x := 47) rfl rfl ?_
                refine y_getI (v := 0) 8 3 rfl f_0_124 rfl (congrArg Prod.fst (F.1 47 (8, 4) rfl rfl)) (F.2.2.1 6019 0 rfl rfl) ?_
                refine x_icge (tgt := 161) rfl rfl (br_t (by decide) ?_)
                refine x_vret rfl rfl ?_
                show jX m_X0_readHouses 97 0 0 69 [(3, .int 0), (0, .ref 98), (1, .int 0), (2, .int a3)] [] _ 0 0 _
                refine x_aloadn (x := 98) rfl rfl ?_
                refine x_aloadn (x := 98) rfl rfl ?_
                refine x_getR (b := 32) 0 0 rfl f_0_57 rfl (congrArg Prod.fst (F.1 98 (0, 16) rfl rfl)) (F.2.1 12544 32 rfl rfl) ?_
                refine x_getR (b := 51) 1 9 rfl f_0_136 rfl (congrArg Prod.fst (F.1 32 (1, 20) rfl rfl)) (F.2.1 4105 51 rfl rfl) ?_
                refine x_iconst (v := 3) rfl ki_3 ?_
                refine x_aloadn (x := 98) rfl rfl ?_
                refine x_getR (b := 103) 0 6 rfl f_0_24 rfl (congrArg Prod.fst (F.1 98 (0, 16) rfl rfl)) (F.2.1 12550 103 rfl rfl) ?_
                refine x_iconst (v := (-1)) rfl ki_m1 ?_
                refine x_inv (N := m_X0_readLatest) (As := [.ref 51, .int 3, .ref 103, .int (-1)]) (b := 98) (st := []) (d' := 96) (mc := 0) (ms := 0) (host := "") 0 rfl t_X0_readLatest ⟨Or.inl q_0_132, i_X0_readLatest.1, i_X0_readLatest.2⟩ ⟨by decide, rfl⟩ (congrArg Prod.fst (F.1 98 (0, 16) rfl rfl)) rfl (by decide) rfl rfl ⟨by decide, by decide⟩ (jC.of rfl k_X0_readLatest rfl ?_)
                show jX m_X0_readLatest 96 0 0 0 [(0, .ref 98), (1, .ref 51), (2, .int 3), (3, .ref 103), (4, .int (-1))] [] _ 0 0 _
                refine x_iconst (v := 0) rfl ki_0 ?_
                refine x_istore (ls' := [(5, .int 0), (0, .ref 98), (1, .ref 51), (2, .int 3), (3, .ref 103), (4, .int (-1))]) rfl rfl rfl ?_
                refine x_iload (x := 0) rfl rfl ?_
                refine x_bipush (v := 40) rfl kb_40 ?_
                refine x_icge (tgt := 52) rfl rfl (br_f (by decide) ?_)
                refine x_iload (x := 0) rfl rfl ?_
                refine x_aloadn (x := 98) rfl rfl ?_
                refine x_getR (b := 32) 0 0 rfl f_0_57 rfl (congrArg Prod.fst (F.1 98 (0, 16) rfl rfl)) (F.2.1 12544 32 rfl rfl) ?_
                refine x_getR (b := 49) 1 8 rfl f_0_120 rfl (congrArg Prod.fst (F.1 32 (1, 20) rfl rfl)) (F.2.1 4104 49 rfl rfl) ?_
                refine y_getI (v := 0) 8 3 rfl f_0_124 rfl (congrArg Prod.fst (F.1 49 (8, 4) rfl rfl)) (F.2.2.1 6275 0 rfl rfl) ?_
                refine x_icge (tgt := 52) rfl rfl (br_t (by decide) ?_)
                refine x_iconst (v := 0) rfl ki_0 ?_
                refine x_istore (ls' := [(5, .int 0), (0, .ref 98), (1, .ref 51), (2, .int 3), (3, .ref 103), (4, .int (-1))]) rfl rfl rfl ?_
                refine x_iload (x := 0) rfl rfl ?_
                refine x_aloadn (x := 51) rfl rfl ?_
                refine y_getI (v := 0) 8 3 rfl f_0_124 rfl (congrArg Prod.fst (F.1 51 (8, 4) rfl rfl)) (F.2.2.1 6531 0 rfl rfl) ?_
                refine x_icge (tgt := 161) rfl rfl (br_t (by decide) ?_)
                refine x_vret rfl rfl ?_
                show jX m_X0_readHouses 97 0 0 86 [(3, .int 0), (0, .ref 98), (1, .int 0), (2, .int a3)] [] _ 0 0 _
                refine x_iconst (v := 0) rfl ki_0 ?_
                refine x_istore (ls' := [(4, .int 0), (3, .int 0), (0, .ref 98), (1, .int 0), (2, .int a3)]) rfl rfl rfl ?_
                refine x_iload (x := 0) rfl rfl ?_
                refine x_iloadn (x := 0) rfl rfl ?_
                refine x_icge (tgt := 172) rfl rfl (br_t (by decide) ?_)
                refine x_vret rfl rfl ?_
                show jX m_X0_turnTo 98 0 0 12 [(0, .ref 98), (1, .int 0), (2, .int a3)] [] _ 0 0 _
                refine x_vret rfl rfl ?_
                show jX m_X4_partOut 99 0 0 71 [(4, .int 0), (3, .int 0), (0, .ref 107), (1, .int a1), (2, .int a3)] [] _ 0 0 _
                refine x_lconst (v := 0) rfl kl_0 ?_
                refine x_lstore (ls' := [(5, .long 0), (4, .int 0), (3, .int 0), (0, .ref 107), (1, .int a1), (2, .int a3)]) rfl rfl rfl ?_
                refine x_iconst (v := 0) rfl ki_0 ?_
                refine x_istore (ls' := [(7, .int 0), (5, .long 0), (4, .int 0), (3, .int 0), (0, .ref 107), (1, .int a1), (2, .int a3)]) rfl rfl rfl ?_
                refine x_iload (x := 0) rfl rfl ?_
                refine x_aloadn (x := 107) rfl rfl ?_
                refine x_inv (N := m_X4_houses) (As := []) (b := 107) (st := [.int 0]) (d' := 98) (mc := 0) (ms := 0) (host := "") 4 rfl t_X4_houses ⟨Or.inl q_4_107, i_X4_houses.1, i_X4_houses.2⟩ ⟨by decide, rfl⟩ (congrArg Prod.fst (F.1 107 (4, 18) rfl rfl)) rfl (by decide) rfl rfl ⟨by decide, by decide⟩ (jC.of rfl k_X4_houses rfl ?_)
                show jX m_X4_houses 98 0 0 0 [(0, .ref 107)] [] _ 0 0 _
                refine x_bipush (v := 40) rfl kb_40 ?_
                refine x_aloadn (x := 107) rfl rfl ?_
                refine x_getR (b := 32) 4 0 rfl f_4_59 rfl (congrArg Prod.fst (F.1 107 (4, 18) rfl rfl)) (F.2.1 13696 32 rfl rfl) ?_
                refine x_getR (b := 49) 1 8 rfl f_4_71 rfl (congrArg Prod.fst (F.1 32 (1, 20) rfl rfl)) (F.2.1 4104 49 rfl rfl) ?_
                refine y_getI (v := 0) 8 3 rfl f_4_77 rfl (congrArg Prod.fst (F.1 49 (8, 4) rfl rfl)) (F.2.2.1 6275 0 rfl rfl) ?_
                refine x_inst (N := m_J9_min_7cf53) (As := [.int 40, .int 0]) (st := []) (d' := 97) (mc := 0) (ms := 0) (host := "") rfl t_J9_min_7cf53 ⟨Or.inl q_4_82, s_J9_min_7cf53⟩ rfl (by decide) rfl rfl ⟨by decide, by decide⟩ (jC.of rfl k_J9_min_7cf53 rfl ?_)
                show jX m_J9_min_7cf53 97 0 0 0 [(0, .int 40), (1, .int 0)] [] _ 0 0 _
                refine x_iloadn (x := 40) rfl rfl ?_
                refine x_iloadn (x := 0) rfl rfl ?_
                refine x_icgt (tgt := 9) rfl rfl (br_t (by decide) ?_)
                refine x_iloadn (x := 0) rfl rfl ?_
                refine x_iret rfl rfl ?_
                show jX m_X4_houses 98 0 0 15 [(0, .ref 107)] [.int 0] _ 0 0 _
                refine x_iret rfl rfl ?_
                show jX m_X4_partOut 99 0 0 83 [(7, .int 0), (5, .long 0), (4, .int 0), (3, .int 0), (0, .ref 107), (1, .int a1), (2, .int a3)] [.int 0, .int 0] _ 0 0 _
                refine x_icge (tgt := 187) rfl rfl (br_t (by decide) ?_)
                refine x_aloadn (x := 107) rfl rfl ?_
                refine x_iload (x := 0) rfl rfl ?_
                refine x_lload (x := 0) rfl rfl ?_
                refine x_inv (N := m_X4_share) (As := [.int 0, .long 0]) (b := 107) (st := []) (d' := 98) (mc := 0) (ms := 0) (host := "") 4 rfl t_X4_share ⟨Or.inl q_4_123, i_X4_share.1, i_X4_share.2⟩ ⟨by decide, rfl⟩ (congrArg Prod.fst (F.1 107 (4, 18) rfl rfl)) rfl (by decide) rfl rfl ⟨by decide, by decide⟩ (jC.of rfl k_X4_share rfl ?_)
                show jX m_X4_share 98 0 0 0 [(0, .ref 107), (1, .int 0), (2, .long 0)] [] _ 0 0 _
                refine x_lloadn (x := 0) rfl rfl ?_
                refine x_lconst (v := 0) rfl kl_0 ?_
                refine y_lcmp (v := 0) rfl (by decide) ?_
                refine x_ifne (tgt := 10) rfl rfl (bn_f (by decide) ?_)
                refine x_lconst (v := 0) rfl kl_0 ?_
                refine x_goto (tgt := 12) rfl rfl ?_
                refine x_lstore (ls' := [(4, .long 0), (0, .ref 107), (1, .int 0), (2, .long 0)]) rfl rfl rfl ?_
                refine x_iconst (v := 0) rfl ki_0 ?_
                refine x_istore (ls' := [(6, .int 0), (4, .long 0), (0, .ref 107), (1, .int 0), (2, .long 0)]) rfl rfl rfl ?_
                refine x_iload (x := 0) rfl rfl ?_
                refine x_aloadn (x := 107) rfl rfl ?_
                refine x_inv (N := m_X4_houses) (As := []) (b := 107) (st := [.int 0]) (d' := 97) (mc := 0) (ms := 0) (host := "") 4 rfl t_X4_houses ⟨Or.inl q_4_107, i_X4_houses.1, i_X4_houses.2⟩ ⟨by decide, rfl⟩ (congrArg Prod.fst (F.1 107 (4, 18) rfl rfl)) rfl (by decide) rfl rfl ⟨by decide, by decide⟩ (jC.of rfl k_X4_houses rfl ?_)
                show jX m_X4_houses 97 0 0 0 [(0, .ref 107)] [] _ 0 0 _
                refine x_bipush (v := 40) rfl kb_40 ?_
                refine x_aloadn (x := 107) rfl rfl ?_
                refine x_getR (b := 32) 4 0 rfl f_4_59 rfl (congrArg Prod.fst (F.1 107 (4, 18) rfl rfl)) (F.2.1 13696 32 rfl rfl) ?_
                refine x_getR (b := 49) 1 8 rfl f_4_71 rfl (congrArg Prod.fst (F.1 32 (1, 20) rfl rfl)) (F.2.1 4104 49 rfl rfl) ?_
                refine y_getI (v := 0) 8 3 rfl f_4_77 rfl (congrArg Prod.fst (F.1 49 (8, 4) rfl rfl)) (F.2.2.1 6275 0 rfl rfl) ?_
                refine x_inst (N := m_J9_min_7cf53) (As := [.int 40, .int 0]) (st := []) (d' := 96) (mc := 0) (ms := 0) (host := "") rfl t_J9_min_7cf53 ⟨Or.inl q_4_82, s_J9_min_7cf53⟩ rfl (by decide) rfl rfl ⟨by decide, by decide⟩ (jC.of rfl k_J9_min_7cf53 rfl ?_)
                show jX m_J9_min_7cf53 96 0 0 0 [(0, .int 40), (1, .int 0)] [] _ 0 0 _
                refine x_iloadn (x := 40) rfl rfl ?_
                refine x_iloadn (x := 0) rfl rfl ?_
                refine x_icgt (tgt := 9) rfl rfl (br_t (by decide) ?_)
                refine x_iloadn (x := 0) rfl rfl ?_
                refine x_iret rfl rfl ?_
                show jX m_X4_houses 97 0 0 15 [(0, .ref 107)] [.int 0] _ 0 0 _
                refine x_iret rfl rfl ?_
                show jX m_X4_share 98 0 0 23 [(6, .int 0), (4, .long 0), (0, .ref 107), (1, .int 0), (2, .long 0)] [.int 0, .int 0] _ 0 0 _
                refine x_icge (tgt := 113) rfl rfl (br_t (by decide) ?_)
                refine x_iconst (v := 0) rfl ki_0 ?_
                refine x_istore (ls' := [(6, .int 0), (4, .long 0), (0, .ref 107), (1, .int 0), (2, .long 0)]) rfl rfl rfl ?_
                refine x_iload (x := 0) rfl rfl ?_
                refine x_bipush (v := 40) rfl kb_40 ?_
                refine x_icge (tgt := 175) rfl rfl (br_f (by decide) ?_)
                refine x_lload (x := 0) rfl rfl ?_
                refine x_lconst (v := 0) rfl kl_0 ?_
                refine y_lcmp (v := 0) rfl (by decide) ?_
                refine x_ifle (tgt := 175) rfl rfl (br_t (by decide) ?_)
                refine x_vret rfl rfl ?_
                show jX m_X4_partOut 99 0 0 195 [(7, .int 0), (5, .long 0), (4, .int 0), (3, .int 0), (0, .ref 107), (1, .int a1), (2, .int a3)] [] _ 0 0 _
                refine x_iconst (v := 0) rfl ki_0 ?_
                refine x_istore (ls' := [(7, .int 0), (5, .long 0), (4, .int 0), (3, .int 0), (0, .ref 107), (1, .int a1), (2, .int a3)]) rfl rfl rfl ?_
                refine x_iload (x := 0) rfl rfl ?_
                refine x_aloadn (x := 107) rfl rfl ?_
                refine x_inv (N := m_X4_houses) (As := []) (b := 107) (st := [.int 0]) (d' := 98) (mc := 0) (ms := 0) (host := "") 4 rfl t_X4_houses ⟨Or.inl q_4_107, i_X4_houses.1, i_X4_houses.2⟩ ⟨by decide, rfl⟩ (congrArg Prod.fst (F.1 107 (4, 18) rfl rfl)) rfl (by decide) rfl rfl ⟨by decide, by decide⟩ (jC.of rfl k_X4_houses rfl ?_)
                show jX m_X4_houses 98 0 0 0 [(0, .ref 107)] [] _ 0 0 _
                refine x_bipush (v := 40) rfl kb_40 ?_
                refine x_aloadn (x := 107) rfl rfl ?_
                refine x_getR (b := 32) 4 0 rfl f_4_59 rfl (congrArg Prod.fst (F.1 107 (4, 18) rfl rfl)) (F.2.1 13696 32 rfl rfl) ?_
                refine x_getR (b := 49) 1 8 rfl f_4_71 rfl (congrArg Prod.fst (F.1 32 (1, 20) rfl rfl)) (F.2.1 4104 49 rfl rfl) ?_
                refine y_getI (v := 0) 8 3 rfl f_4_77 rfl (congrArg Prod.fst (F.1 49 (8, 4) rfl rfl)) (F.2.2.1 6275 0 rfl rfl) ?_
                refine x_inst (N := m_J9_min_7cf53) (As := [.int 40, .int 0]) (st := []) (d' := 97) (mc := 0) (ms := 0) (host := "") rfl t_J9_min_7cf53 ⟨Or.inl q_4_82, s_J9_min_7cf53⟩ rfl (by decide) rfl rfl ⟨by decide, by decide⟩ (jC.of rfl k_J9_min_7cf53 rfl ?_)
                show jX m_J9_min_7cf53 97 0 0 0 [(0, .int 40), (1, .int 0)] [] _ 0 0 _
                refine x_iloadn (x := 40) rfl rfl ?_
                refine x_iloadn (x := 0) rfl rfl ?_
                refine x_icgt (tgt := 9) rfl rfl (br_t (by decide) ?_)
                refine x_iloadn (x := 0) rfl rfl ?_
                refine x_iret rfl rfl ?_
                show jX m_X4_houses 98 0 0 15 [(0, .ref 107)] [.int 0] _ 0 0 _
                refine x_iret rfl rfl ?_
                show jX m_X4_partOut 99 0 0 204 [(7, .int 0), (5, .long 0), (4, .int 0), (3, .int 0), (0, .ref 107), (1, .int a1), (2, .int a3)] [.int 0, .int 0] _ 0 0 _
                refine x_icge (tgt := 275) rfl rfl (br_t (by decide) ?_)
                refine x_vret rfl rfl ?_
                show jX m_X11_owe 100 0 0 54 [(0, .ref 31), (1, .int a1), (2, .int a2), (3, .int a3)] [] _ 0 0 _
                refine x_iloadn (x := a2) rfl rfl ?_
                refine x_iconst (v := (-1)) rfl ki_m1 ?_
                refine x_icne (tgt := 69) rfl rfl (ti_ne (show (a2 : Int32).toInt = a2.toInt from rfl) (show ((-1) : Int32).toInt = (-1) by decide) (bn_f c5 ?_))
                refine x_aloadn (x := 31) rfl rfl ?_
                refine x_getR (b := 107) 11 8 rfl f_11_75 rfl (congrArg Prod.fst (F.1 31 (11, 13) rfl rfl)) (F.2.1 3976 107 rfl rfl) ?_
                refine x_inv (N := m_X4_owedByAll) (As := []) (b := 107) (st := []) (d' := 99) (mc := 0) (ms := 0) (host := "") 4 rfl t_X4_owedByAll ⟨Or.inl q_11_446, i_X4_owedByAll.1, i_X4_owedByAll.2⟩ ⟨by decide, rfl⟩ (congrArg Prod.fst (F.1 107 (4, 18) rfl rfl)) rfl (by decide) rfl rfl ⟨by decide, by decide⟩ (jC.of rfl k_X4_owedByAll rfl ?_)
                show jX m_X4_owedByAll 99 0 0 0 [(0, .ref 107)] [] _ 0 0 _
                refine x_iconst (v := 0) rfl ki_0 ?_
                refine x_istoren (ls' := [(1, .int 0), (0, .ref 107)]) rfl rfl rfl ?_
                refine x_iconst (v := 0) rfl ki_0 ?_
                refine x_istoren (ls' := [(2, .int 0), (1, .int 0), (0, .ref 107)]) rfl rfl rfl ?_
                refine x_iloadn (x := 0) rfl rfl ?_
                refine x_aloadn (x := 107) rfl rfl ?_
                refine x_inv (N := m_X4_houses) (As := []) (b := 107) (st := [.int 0]) (d' := 98) (mc := 0) (ms := 0) (host := "") 4 rfl t_X4_houses ⟨Or.inl q_4_107, i_X4_houses.1, i_X4_houses.2⟩ ⟨by decide, rfl⟩ (congrArg Prod.fst (F.1 107 (4, 18) rfl rfl)) rfl (by decide) rfl rfl ⟨by decide, by decide⟩ (jC.of rfl k_X4_houses rfl ?_)
                show jX m_X4_houses 98 0 0 0 [(0, .ref 107)] [] _ 0 0 _
                refine x_bipush (v := 40) rfl kb_40 ?_
                refine x_aloadn (x := 107) rfl rfl ?_
                refine x_getR (b := 32) 4 0 rfl f_4_59 rfl (congrArg Prod.fst (F.1 107 (4, 18) rfl rfl)) (F.2.1 13696 32 rfl rfl) ?_
                refine x_getR (b := 49) 1 8 rfl f_4_71 rfl (congrArg Prod.fst (F.1 32 (1, 20) rfl rfl)) (F.2.1 4104 49 rfl rfl) ?_
                refine y_getI (v := 0) 8 3 rfl f_4_77 rfl (congrArg Prod.fst (F.1 49 (8, 4) rfl rfl)) (F.2.2.1 6275 0 rfl rfl) ?_
                refine x_inst (N := m_J9_min_7cf53) (As := [.int 40, .int 0]) (st := []) (d' := 97) (mc := 0) (ms := 0) (host := "") rfl t_J9_min_7cf53 ⟨Or.inl q_4_82, s_J9_min_7cf53⟩ rfl (by decide) rfl rfl ⟨by decide, by decide⟩ (jC.of rfl k_J9_min_7cf53 rfl ?_)
                show jX m_J9_min_7cf53 97 0 0 0 [(0, .int 40), (1, .int 0)] [] _ 0 0 _
                refine x_iloadn (x := 40) rfl rfl ?_
                refine x_iloadn (x := 0) rfl rfl ?_
                refine x_icgt (tgt := 9) rfl rfl (br_t (by decide) ?_)
                refine x_iloadn (x := 0) rfl rfl ?_
                refine x_iret rfl rfl ?_
                show jX m_X4_houses 98 0 0 15 [(0, .ref 107)] [.int 0] _ 0 0 _
                refine x_iret rfl rfl ?_
                show jX m_X4_owedByAll 99 0 0 9 [(2, .int 0), (1, .int 0), (0, .ref 107)] [.int 0, .int 0] _ 0 0 _
                refine x_icge (tgt := 27) rfl rfl (br_t (by decide) ?_)
                refine x_iloadn (x := 0) rfl rfl ?_
                refine x_iret rfl rfl ?_
                show jX m_X11_owe 100 0 0 66 [(0, .ref 31), (1, .int a1), (2, .int a2), (3, .int a3)] [.int 0] _ 0 0 _
                refine x_goto (tgt := 78) rfl rfl ?_
                refine x_iret rfl rfl ?_
                exact jqe (show sp_owe a1 a2 a3 = 0 by unfold sp_owe; (repeat' split) <;> first | rfl | (exfalso; omega)) (hQ _ (by repeat (first | exact FM | refine jFb_si rfl ?_ | refine jFb_sl rfl ?_ | refine jFb_ci rfl ?_ | refine jFb_cl rfl ?_ | refine jFb_sr rfl ?_)) (by repeat (first | exact O | refine jOl_si rfl ?_ | refine jOl_sl rfl ?_ | refine jOl_ci rfl ?_ | refine jOl_cl rfl ?_ | refine jOl_sr rfl ?_)))
              ·
                refine x_aloadn (x := 111) rfl rfl ?_
                refine x_iconst (v := 1) rfl ki_1 ?_
                refine y_iald (v := 0) (N := 3) 1 rfl (F.1 111 (100, 3) rfl rfl) (jinb_of (by decide)) (by decide) (F.2.2.2.1 111 rfl rfl 1).1 ?_
                refine x_iloadn (x := a3) rfl rfl ?_
                refine x_icne (tgt := 33) rfl rfl (ti_ne (show (0 : Int32).toInt = 0 by decide) (show (a3 : Int32).toInt = a3.toInt from rfl) (bn_f c6 ?_))
                refine x_aloadn (x := 111) rfl rfl ?_
                refine x_iconst (v := 2) rfl ki_2 ?_
                refine y_iald (v := 0) (N := 3) 2 rfl (F.1 111 (100, 3) rfl rfl) (jinb_of (by decide)) (by decide) (F.2.2.2.1 111 rfl rfl 2).1 ?_
                refine x_iloadn (x := 1) rfl rfl ?_
                refine x_icne (tgt := 33) rfl rfl (bn_t (by decide) ?_)
                refine x_iconst (v := 0) rfl ki_0 ?_
                refine x_istore (ls' := [(4, .int 0), (0, .ref 111), (1, .int a1), (2, .int a3), (3, .int 1)]) rfl rfl rfl ?_
                refine x_aloadn (x := 111) rfl rfl ?_
                refine x_iconst (v := 0) rfl ki_0 ?_
                refine x_iloadn (x := a1) rfl rfl ?_
                refine y_iast (N := 3) 0 rfl (F.1 111 (100, 3) rfl rfl) rfl (jinb_of (by decide)) (by decide) ?_
                refine x_aloadn (x := 111) rfl rfl ?_
                refine x_iconst (v := 1) rfl ki_1 ?_
                refine x_iloadn (x := a3) rfl rfl ?_
                refine y_iast (N := 3) 1 rfl (F.1 111 (100, 3) rfl rfl) rfl (jinb_of (by decide)) (by decide) ?_
                refine x_aloadn (x := 111) rfl rfl ?_
                refine x_iconst (v := 2) rfl ki_2 ?_
                refine x_iloadn (x := 1) rfl rfl ?_
                refine y_iast (N := 3) 2 rfl (F.1 111 (100, 3) rfl rfl) rfl (jinb_of (by decide)) (by decide) ?_
                refine x_iload (x := 0) rfl rfl ?_
                refine x_zret rfl rfl (by first | decide | exact jp_01 _) ?_
                show jX m_X4_partOut 99 0 0 16 [(0, .ref 107), (1, .int a1), (2, .int a3)] [.int 0] _ 0 0 _
                refine x_ifeq (tgt := 20) rfl rfl (br_t (by decide) ?_)
                refine x_aloadn (x := 107) rfl rfl ?_
                refine x_getR (b := 32) 4 0 rfl f_4_59 rfl (congrArg Prod.fst (F.1 107 (4, 18) rfl rfl)) (F.2.1 13696 32 rfl rfl) ?_
                refine x_getR (b := 53) 1 10 rfl f_4_95 rfl (congrArg Prod.fst (F.1 32 (1, 20) rfl rfl)) (F.2.1 4106 53 rfl rfl) ?_
                refine x_iloadn (x := a1) rfl rfl ?_
                refine x_iconst (v := 2) rfl ki_2 ?_
                refine x_inv (N := m_X8_at) (As := [.int a1, .int 2]) (b := 53) (st := []) (d' := 98) (mc := 0) (ms := 0) (host := "") 8 rfl t_X8_at ⟨Or.inl q_4_98, i_X8_at.1, i_X8_at.2⟩ ⟨by decide, rfl⟩ (congrArg Prod.fst (F.1 53 (8, 4) rfl rfl)) rfl (by decide) rfl rfl ⟨by decide, by decide⟩ (jC.of rfl k_X8_at rfl ?_)
                show jX m_X8_at 98 0 0 0 [(0, .ref 53), (1, .int a1), (2, .int 2)] [] _ 0 0 _
                refine x_iloadn (x := a1) rfl rfl ?_
                refine x_iflt (tgt := 24) rfl rfl (ti_lt (show (a1 : Int32).toInt = a1.toInt from rfl) (show (0 : Int32).toInt = 0 by decide) (br_f c2 ?_))
                refine x_iloadn (x := a1) rfl rfl ?_
                refine x_aloadn (x := 53) rfl rfl ?_
                refine y_getI (v := 0) 8 3 rfl f_8_7 rfl (congrArg Prod.fst (F.1 53 (8, 4) rfl rfl)) (F.2.2.1 6787 0 rfl rfl) ?_
                refine x_icge (tgt := 24) rfl rfl (ti_ge (show (a1 : Int32).toInt = a1.toInt from rfl) (show (0 : Int32).toInt = 0 by decide) (br_f c3 ?_))
                refine x_iloadn (x := 2) rfl rfl ?_
                refine x_iflt (tgt := 24) rfl rfl (br_f (by decide) ?_)
                refine x_iloadn (x := 2) rfl rfl ?_
                refine x_aloadn (x := 53) rfl rfl ?_
                refine y_getI (v := 4) 8 0 rfl f_8_19 rfl (congrArg Prod.fst (F.1 53 (8, 4) rfl rfl)) (F.2.2.1 6784 4 rfl rfl) ?_
                refine x_iclt (tgt := 26) rfl rfl (br_t (by decide) ?_)
                refine x_aloadn (x := 53) rfl rfl ?_
                refine x_getR (b := 54) 8 2 rfl f_8_25 rfl (congrArg Prod.fst (F.1 53 (8, 4) rfl rfl)) (F.2.1 6786 54 rfl rfl) ?_
                refine x_iloadn (x := a1) rfl rfl ?_
                refine x_aloadn (x := 53) rfl rfl ?_
                refine y_getI (v := 4) 8 0 rfl f_8_19 rfl (congrArg Prod.fst (F.1 53 (8, 4) rfl rfl)) (F.2.2.1 6784 4 rfl rfl) ?_
                refine x_imul rfl ?_
                refine x_iloadn (x := 2) rfl rfl ?_
                refine x_iadd rfl ?_
                refine y_iald (v := 0) (N := 160) ((a1 * 4) + 2).toNatClampNeg rfl (F.1 54 (100, 160) rfl rfl) (vpi (by omega)) rfl (F.2.2.2.1 54 rfl rfl _).1 ?_
                refine x_iret rfl rfl ?_
                show jX m_X4_partOut 99 0 0 32 [(0, .ref 107), (1, .int a1), (2, .int a3)] [.int 0] _ 0 0 _
                refine x_istoren (ls' := [(3, .int 0), (0, .ref 107), (1, .int a1), (2, .int a3)]) rfl rfl rfl ?_
                refine x_aloadn (x := 107) rfl rfl ?_
                refine x_getR (b := 32) 4 0 rfl f_4_59 rfl (congrArg Prod.fst (F.1 107 (4, 18) rfl rfl)) (F.2.1 13696 32 rfl rfl) ?_
                refine x_getR (b := 53) 1 10 rfl f_4_95 rfl (congrArg Prod.fst (F.1 32 (1, 20) rfl rfl)) (F.2.1 4106 53 rfl rfl) ?_
                refine x_iloadn (x := a1) rfl rfl ?_
                refine x_iconst (v := 3) rfl ki_3 ?_
                refine x_inv (N := m_X8_at) (As := [.int a1, .int 3]) (b := 53) (st := []) (d' := 98) (mc := 0) (ms := 0) (host := "") 8 rfl t_X8_at ⟨Or.inl q_4_98, i_X8_at.1, i_X8_at.2⟩ ⟨by decide, rfl⟩ (congrArg Prod.fst (F.1 53 (8, 4) rfl rfl)) rfl (by decide) rfl rfl ⟨by decide, by decide⟩ (jC.of rfl k_X8_at rfl ?_)
                show jX m_X8_at 98 0 0 0 [(0, .ref 53), (1, .int a1), (2, .int 3)] [] _ 0 0 _
                refine x_iloadn (x := a1) rfl rfl ?_
                refine x_iflt (tgt := 24) rfl rfl (ti_lt (show (a1 : Int32).toInt = a1.toInt from rfl) (show (0 : Int32).toInt = 0 by decide) (br_f c2 ?_))
                refine x_iloadn (x := a1) rfl rfl ?_
                refine x_aloadn (x := 53) rfl rfl ?_
                refine y_getI (v := 0) 8 3 rfl f_8_7 rfl (congrArg Prod.fst (F.1 53 (8, 4) rfl rfl)) (F.2.2.1 6787 0 rfl rfl) ?_
                refine x_icge (tgt := 24) rfl rfl (ti_ge (show (a1 : Int32).toInt = a1.toInt from rfl) (show (0 : Int32).toInt = 0 by decide) (br_f c3 ?_))
                refine x_iloadn (x := 3) rfl rfl ?_
                refine x_iflt (tgt := 24) rfl rfl (br_f (by decide) ?_)
                refine x_iloadn (x := 3) rfl rfl ?_
                refine x_aloadn (x := 53) rfl rfl ?_
                refine y_getI (v := 4) 8 0 rfl f_8_19 rfl (congrArg Prod.fst (F.1 53 (8, 4) rfl rfl)) (F.2.2.1 6784 4 rfl rfl) ?_
                refine x_iclt (tgt := 26) rfl rfl (br_t (by decide) ?_)
                refine x_aloadn (x := 53) rfl rfl ?_
                refine x_getR (b := 54) 8 2 rfl f_8_25 rfl (congrArg Prod.fst (F.1 53 (8, 4) rfl rfl)) (F.2.1 6786 54 rfl rfl) ?_
                refine x_iloadn (x := a1) rfl rfl ?_
                refine x_aloadn (x := 53) rfl rfl ?_
                refine y_getI (v := 4) 8 0 rfl f_8_19 rfl (congrArg Prod.fst (F.1 53 (8, 4) rfl rfl)) (F.2.2.1 6784 4 rfl rfl) ?_
                refine x_imul rfl ?_
                refine x_iloadn (x := 3) rfl rfl ?_
                refine x_iadd rfl ?_
                refine y_iald (v := 0) (N := 160) ((a1 * 4) + 3).toNatClampNeg rfl (F.1 54 (100, 160) rfl rfl) (vpi (by omega)) rfl (F.2.2.2.1 54 rfl rfl _).1 ?_
                refine x_iret rfl rfl ?_
                show jX m_X4_partOut 99 0 0 45 [(3, .int 0), (0, .ref 107), (1, .int a1), (2, .int a3)] [.int 0] _ 0 0 _
                refine x_istore (ls' := [(4, .int 0), (3, .int 0), (0, .ref 107), (1, .int a1), (2, .int a3)]) rfl rfl rfl ?_
                refine x_aloadn (x := 107) rfl rfl ?_
                refine x_getR (b := 98) 4 2 rfl f_4_67 rfl (congrArg Prod.fst (F.1 107 (4, 18) rfl rfl)) (F.2.1 13698 98 rfl rfl) ?_
                refine x_aloadn (x := 107) rfl rfl ?_
                refine x_getR (b := 32) 4 0 rfl f_4_59 rfl (congrArg Prod.fst (F.1 107 (4, 18) rfl rfl)) (F.2.1 13696 32 rfl rfl) ?_
                refine x_getR (b := 53) 1 10 rfl f_4_95 rfl (congrArg Prod.fst (F.1 32 (1, 20) rfl rfl)) (F.2.1 4106 53 rfl rfl) ?_
                refine x_iloadn (x := a1) rfl rfl ?_
                refine x_iconst (v := 1) rfl ki_1 ?_
                refine x_inv (N := m_X8_at) (As := [.int a1, .int 1]) (b := 53) (st := [.ref 98]) (d' := 98) (mc := 0) (ms := 0) (host := "") 8 rfl t_X8_at ⟨Or.inl q_4_98, i_X8_at.1, i_X8_at.2⟩ ⟨by decide, rfl⟩ (congrArg Prod.fst (F.1 53 (8, 4) rfl rfl)) rfl (by decide) rfl rfl ⟨by decide, by decide⟩ (jC.of rfl k_X8_at rfl ?_)
                show jX m_X8_at 98 0 0 0 [(0, .ref 53), (1, .int a1), (2, .int 1)] [] _ 0 0 _
                refine x_iloadn (x := a1) rfl rfl ?_
                refine x_iflt (tgt := 24) rfl rfl (ti_lt (show (a1 : Int32).toInt = a1.toInt from rfl) (show (0 : Int32).toInt = 0 by decide) (br_f c2 ?_))
                refine x_iloadn (x := a1) rfl rfl ?_
                refine x_aloadn (x := 53) rfl rfl ?_
                refine y_getI (v := 0) 8 3 rfl f_8_7 rfl (congrArg Prod.fst (F.1 53 (8, 4) rfl rfl)) (F.2.2.1 6787 0 rfl rfl) ?_
                refine x_icge (tgt := 24) rfl rfl (ti_ge (show (a1 : Int32).toInt = a1.toInt from rfl) (show (0 : Int32).toInt = 0 by decide) (br_f c3 ?_))
                refine x_iloadn (x := 1) rfl rfl ?_
                refine x_iflt (tgt := 24) rfl rfl (br_f (by decide) ?_)
                refine x_iloadn (x := 1) rfl rfl ?_
                refine x_aloadn (x := 53) rfl rfl ?_
                refine y_getI (v := 4) 8 0 rfl f_8_19 rfl (congrArg Prod.fst (F.1 53 (8, 4) rfl rfl)) (F.2.2.1 6784 4 rfl rfl) ?_
                refine x_iclt (tgt := 26) rfl rfl (br_t (by decide) ?_)
                refine x_aloadn (x := 53) rfl rfl ?_
                refine x_getR (b := 54) 8 2 rfl f_8_25 rfl (congrArg Prod.fst (F.1 53 (8, 4) rfl rfl)) (F.2.1 6786 54 rfl rfl) ?_
                refine x_iloadn (x := a1) rfl rfl ?_
                refine x_aloadn (x := 53) rfl rfl ?_
                refine y_getI (v := 4) 8 0 rfl f_8_19 rfl (congrArg Prod.fst (F.1 53 (8, 4) rfl rfl)) (F.2.2.1 6784 4 rfl rfl) ?_
                refine x_imul rfl ?_
                refine x_iloadn (x := 1) rfl rfl ?_
                refine x_iadd rfl ?_
                refine y_iald (v := 0) (N := 160) ((a1 * 4) + 1).toNatClampNeg rfl (F.1 54 (100, 160) rfl rfl) (vpi (by omega)) rfl (F.2.2.2.1 54 rfl rfl _).1 ?_
                refine x_iret rfl rfl ?_
                show jX m_X4_partOut 99 0 0 63 [(4, .int 0), (3, .int 0), (0, .ref 107), (1, .int a1), (2, .int a3)] [.int 0, .ref 98] _ 0 0 _
                refine x_sipush (v := 366) rfl ks_366 ?_
                refine y_imul (v := 0) rfl (by decide) ?_
                refine x_iloadn (x := a3) rfl rfl ?_
                refine x_inv (N := m_X0_turnTo) (As := [.int 0, .int a3]) (b := 98) (st := []) (d' := 98) (mc := 0) (ms := 0) (host := "") 0 rfl t_X0_turnTo ⟨Or.inl q_4_101, i_X0_turnTo.1, i_X0_turnTo.2⟩ ⟨by decide, rfl⟩ (congrArg Prod.fst (F.1 98 (0, 16) rfl rfl)) rfl (by decide) rfl rfl ⟨by decide, by decide⟩ (jC.of rfl k_X0_turnTo rfl ?_)
                show jX m_X0_turnTo 98 0 0 0 [(0, .ref 98), (1, .int 0), (2, .int a3)] [] _ 0 0 _
                refine x_aloadn (x := 98) rfl rfl ?_
                refine x_iloadn (x := 0) rfl rfl ?_
                refine x_iloadn (x := a3) rfl rfl ?_
                refine x_inv (N := m_X0_readLaws) (As := [.int 0, .int a3]) (b := 98) (st := []) (d' := 97) (mc := 0) (ms := 0) (host := "") 0 rfl t_X0_readLaws ⟨Or.inl q_0_65, i_X0_readLaws.1, i_X0_readLaws.2⟩ ⟨by decide, rfl⟩ (congrArg Prod.fst (F.1 98 (0, 16) rfl rfl)) rfl (by decide) rfl rfl ⟨by decide, by decide⟩ (jC.of rfl k_X0_readLaws rfl ?_)
                show jX m_X0_readLaws 97 0 0 0 [(0, .ref 98), (1, .int 0), (2, .int a3)] [] _ 0 0 _
                refine x_aloadn (x := 98) rfl rfl ?_
                refine x_iloadn (x := 0) rfl rfl ?_
                refine x_putI 0 10 rfl f_0_37 rfl (jfin_no TX0 RX0 16 rfl rfl) (congrArg Prod.fst (F.1 98 (0, 16) rfl rfl)) rfl ?_
                refine x_aloadn (x := 98) rfl rfl ?_
                refine x_iloadn (x := a3) rfl rfl ?_
                refine x_putI 0 11 rfl f_0_41 rfl (jfin_no TX0 RX0 16 rfl rfl) (congrArg Prod.fst (F.1 98 (0, 16) rfl rfl)) rfl ?_
                refine x_aloadn (x := 98) rfl rfl ?_
                refine x_getR (b := 101) 0 4 rfl f_0_18 rfl (congrArg Prod.fst (F.1 98 (0, 16) rfl rfl)) (F.2.1 12548 101 rfl rfl) ?_
                refine x_aloadn (x := 98) rfl rfl ?_
                refine y_getI (v := 0) 0 10 rfl f_0_37 rfl (congrArg Prod.fst (F.1 98 (0, 16) rfl rfl)) rfl ?_
                refine x_aloadn (x := 98) rfl rfl ?_
                refine y_getI (v := a3) 0 11 rfl f_0_41 rfl (congrArg Prod.fst (F.1 98 (0, 16) rfl rfl)) rfl ?_
                refine x_aloadn (x := 98) rfl rfl ?_
                refine x_getR (b := 32) 0 0 rfl f_0_57 rfl (congrArg Prod.fst (F.1 98 (0, 16) rfl rfl)) (F.2.1 12544 32 rfl rfl) ?_
                refine y_getI (v := 1) 1 19 rfl f_0_81 rfl (congrArg Prod.fst (F.1 32 (1, 20) rfl rfl)) (F.2.2.1 4115 1 rfl rfl) ?_
                refine x_inst (N := m_X11_isFresh) (As := [.ref 101, .int 0, .int a3, .int 1]) (st := []) (d' := 96) (mc := 0) (ms := 0) (host := "ParishChest") rfl t_X11_isFresh ⟨Or.inr q_0_84, s_X11_isFresh⟩ rfl (by decide) rfl rfl ⟨by decide, by decide⟩ (jC.of rfl k_X11_isFresh rfl ?_)
                show jX m_X11_isFresh 96 0 0 0 [(0, .ref 101), (1, .int 0), (2, .int a3), (3, .int 1)] [] _ 0 0 _
                refine x_aloadn (x := 101) rfl rfl ?_
                refine y_alen (N := 3) (v := 3) rfl (F.1 101 (100, 3) rfl rfl) (by decide) (by decide) ?_
                refine x_iconst (v := 3) rfl ki_3 ?_
                refine x_icge (tgt := 8) rfl rfl (br_t (by decide) ?_)
                refine x_aloadn (x := 101) rfl rfl ?_
                refine x_iconst (v := 0) rfl ki_0 ?_
                refine y_iald (v := 0) (N := 3) 0 rfl (F.1 101 (100, 3) rfl rfl) (jinb_of (by decide)) (by decide) (F.2.2.2.1 101 rfl rfl 0).1 ?_
                refine x_iloadn (x := 0) rfl rfl ?_
                refine x_icne (tgt := 33) rfl rfl (bn_f (by decide) ?_)
                refine x_aloadn (x := 101) rfl rfl ?_
                refine x_iconst (v := 1) rfl ki_1 ?_
                refine y_iald (v := 0) (N := 3) 1 rfl (F.1 101 (100, 3) rfl rfl) (jinb_of (by decide)) (by decide) (F.2.2.2.1 101 rfl rfl 1).1 ?_
                refine x_iloadn (x := a3) rfl rfl ?_
                refine x_icne (tgt := 33) rfl rfl (ti_ne (show (0 : Int32).toInt = 0 by decide) (show (a3 : Int32).toInt = a3.toInt from rfl) (bn_f c6 ?_))
                refine x_aloadn (x := 101) rfl rfl ?_
                refine x_iconst (v := 2) rfl ki_2 ?_
                refine y_iald (v := 0) (N := 3) 2 rfl (F.1 101 (100, 3) rfl rfl) (jinb_of (by decide)) (by decide) (F.2.2.2.1 101 rfl rfl 2).1 ?_
                refine x_iloadn (x := 1) rfl rfl ?_
                refine x_icne (tgt := 33) rfl rfl (bn_t (by decide) ?_)
                refine x_iconst (v := 0) rfl ki_0 ?_
                refine x_istore (ls' := [(4, .int 0), (0, .ref 101), (1, .int 0), (2, .int a3), (3, .int 1)]) rfl rfl rfl ?_
                refine x_aloadn (x := 101) rfl rfl ?_
                refine x_iconst (v := 0) rfl ki_0 ?_
                refine x_iloadn (x := 0) rfl rfl ?_
                refine y_iast (N := 3) 0 rfl (F.1 101 (100, 3) rfl rfl) rfl (jinb_of (by decide)) (by decide) ?_
                refine x_aloadn (x := 101) rfl rfl ?_
                refine x_iconst (v := 1) rfl ki_1 ?_
                refine x_iloadn (x := a3) rfl rfl ?_
                refine y_iast (N := 3) 1 rfl (F.1 101 (100, 3) rfl rfl) rfl (jinb_of (by decide)) (by decide) ?_
                refine x_aloadn (x := 101) rfl rfl ?_
                refine x_iconst (v := 2) rfl ki_2 ?_
                refine x_iloadn (x := 1) rfl rfl ?_
                refine y_iast (N := 3) 2 rfl (F.1 101 (100, 3) rfl rfl) rfl (jinb_of (by decide)) (by decide) ?_
                refine x_iload (x := 0) rfl rfl ?_
                refine x_zret rfl rfl (by first | decide | exact jp_01 _) ?_
                show jX m_X0_readLaws 97 0 0 32 [(0, .ref 98), (1, .int 0), (2, .int a3)] [.int 0] _ 0 0 _
                refine x_ifeq (tgt := 36) rfl rfl (br_t (by decide) ?_)
                refine x_bipush (v := 30) rfl kb_30 ?_
                refine x_aloadn (x := 98) rfl rfl ?_
                refine x_getR (b := 32) 0 0 rfl f_0_57 rfl (congrArg Prod.fst (F.1 98 (0, 16) rfl rfl)) (F.2.1 12544 32 rfl rfl) ?_
                refine y_getI (v := 0) 1 18 rfl f_0_72 rfl (congrArg Prod.fst (F.1 32 (1, 20) rfl rfl)) (F.2.2.1 4114 0 rfl rfl) ?_
                refine x_inst (N := m_J9_min_7cf53) (As := [.int 30, .int 0]) (st := []) (d' := 96) (mc := 0) (ms := 0) (host := "") rfl t_J9_min_7cf53 ⟨Or.inl q_0_88, s_J9_min_7cf53⟩ rfl (by decide) rfl rfl ⟨by decide, by decide⟩ (jC.of rfl k_J9_min_7cf53 rfl ?_)
                show jX m_J9_min_7cf53 96 0 0 0 [(0, .int 30), (1, .int 0)] [] _ 0 0 _
                refine x_iloadn (x := 30) rfl rfl ?_
                refine x_iloadn (x := 0) rfl rfl ?_
                refine x_icgt (tgt := 9) rfl rfl (br_t (by decide) ?_)
                refine x_iloadn (x := 0) rfl rfl ?_
                refine x_iret rfl rfl ?_
                show jX m_X0_readLaws 97 0 0 48 [(0, .ref 98), (1, .int 0), (2, .int a3)] [.int 0] _ 0 0 _
                refine x_istoren (ls' := [(3, .int 0), (0, .ref 98), (1, .int 0), (2, .int a3)]) rfl rfl rfl ?_
                refine x_iconst (v := 0) rfl ki_0 ?_
                refine x_istore (ls' := [(4, .int 0), (3, .int 0), (0, .ref 98), (1, .int 0), (2, .int a3)]) rfl rfl rfl ?_
                refine x_iload (x := 0) rfl rfl ?_
                refine x_iloadn (x := 0) rfl rfl ?_
                refine x_icge (tgt := 80) rfl rfl (br_t (by decide) ?_)
                refine x_iloadn (x := 0) rfl rfl ?_
                refine x_iconst (v := 1) rfl ki_1 ?_
                refine y_isub (v := (-1)) rfl (by decide) ?_
                refine x_istore (ls' := [(4, .int (-1)), (3, .int 0), (0, .ref 98), (1, .int 0), (2, .int a3)]) rfl rfl rfl ?_
                refine x_iload (x := (-1)) rfl rfl ?_
                refine x_iflt (tgt := 167) rfl rfl (br_t (by decide) ?_)
                refine x_vret rfl rfl ?_
                show jX m_X0_turnTo 98 0 0 6 [(0, .ref 98), (1, .int 0), (2, .int a3)] [] _ 0 0 _
                refine x_aloadn (x := 98) rfl rfl ?_
                refine x_iloadn (x := 0) rfl rfl ?_
                refine x_iloadn (x := a3) rfl rfl ?_
                refine x_inv (N := m_X0_readHouses) (As := [.int 0, .int a3]) (b := 98) (st := []) (d' := 97) (mc := 0) (ms := 0) (host := "") 0 rfl t_X0_readHouses ⟨Or.inl q_0_69, i_X0_readHouses.1, i_X0_readHouses.2⟩ ⟨by decide, rfl⟩ (congrArg Prod.fst (F.1 98 (0, 16) rfl rfl)) rfl (by decide) rfl rfl ⟨by decide, by decide⟩ (jC.of rfl k_X0_readHouses rfl ?_)
                show jX m_X0_readHouses 97 0 0 0 [(0, .ref 98), (1, .int 0), (2, .int a3)] [] _ 0 0 _
                refine x_aloadn (x := 98) rfl rfl ?_
                refine x_iloadn (x := 0) rfl rfl ?_
                refine x_putI 0 10 rfl f_0_37 rfl (jfin_no TX0 RX0 16 rfl rfl) (congrArg Prod.fst (F.1 98 (0, 16) rfl rfl)) rfl ?_
                refine x_aloadn (x := 98) rfl rfl ?_
                refine x_iloadn (x := a3) rfl rfl ?_
                refine x_putI 0 11 rfl f_0_41 rfl (jfin_no TX0 RX0 16 rfl rfl) (congrArg Prod.fst (F.1 98 (0, 16) rfl rfl)) rfl ?_
                refine x_aloadn (x := 98) rfl rfl ?_
                refine x_getR (b := 105) 0 8 rfl f_0_30 rfl (congrArg Prod.fst (F.1 98 (0, 16) rfl rfl)) (F.2.1 12552 105 rfl rfl) ?_
                refine x_aloadn (x := 98) rfl rfl ?_
                refine y_getI (v := 0) 0 10 rfl f_0_37 rfl (congrArg Prod.fst (F.1 98 (0, 16) rfl rfl)) rfl ?_
                refine x_aloadn (x := 98) rfl rfl ?_
                refine y_getI (v := a3) 0 11 rfl f_0_41 rfl (congrArg Prod.fst (F.1 98 (0, 16) rfl rfl)) rfl ?_
                refine x_aloadn (x := 98) rfl rfl ?_
                refine x_getR (b := 32) 0 0 rfl f_0_57 rfl (congrArg Prod.fst (F.1 98 (0, 16) rfl rfl)) (F.2.1 12544 32 rfl rfl) ?_
                refine y_getI (v := 1) 1 19 rfl f_0_81 rfl (congrArg Prod.fst (F.1 32 (1, 20) rfl rfl)) (F.2.2.1 4115 1 rfl rfl) ?_
                refine x_inst (N := m_X11_isFresh) (As := [.ref 105, .int 0, .int a3, .int 1]) (st := []) (d' := 96) (mc := 0) (ms := 0) (host := "ParishChest") rfl t_X11_isFresh ⟨Or.inr q_0_84, s_X11_isFresh⟩ rfl (by decide) rfl rfl ⟨by decide, by decide⟩ (jC.of rfl k_X11_isFresh rfl ?_)
                show jX m_X11_isFresh 96 0 0 0 [(0, .ref 105), (1, .int 0), (2, .int a3), (3, .int 1)] [] _ 0 0 _
                refine x_aloadn (x := 105) rfl rfl ?_
                refine y_alen (N := 3) (v := 3) rfl (F.1 105 (100, 3) rfl rfl) (by decide) (by decide) ?_
                refine x_iconst (v := 3) rfl ki_3 ?_
                refine x_icge (tgt := 8) rfl rfl (br_t (by decide) ?_)
                refine x_aloadn (x := 105) rfl rfl ?_
                refine x_iconst (v := 0) rfl ki_0 ?_
                refine y_iald (v := 0) (N := 3) 0 rfl (F.1 105 (100, 3) rfl rfl) (jinb_of (by decide)) (by decide) (F.2.2.2.1 105 rfl rfl 0).1 ?_
                refine x_iloadn (x := 0) rfl rfl ?_
                refine x_icne (tgt := 33) rfl rfl (bn_f (by decide) ?_)
                refine x_aloadn (x := 105) rfl rfl ?_
                refine x_iconst (v := 1) rfl ki_1 ?_
                refine y_iald (v := 0) (N := 3) 1 rfl (F.1 105 (100, 3) rfl rfl) (jinb_of (by decide)) (by decide) (F.2.2.2.1 105 rfl rfl 1).1 ?_
                refine x_iloadn (x := a3) rfl rfl ?_
                refine x_icne (tgt := 33) rfl rfl (ti_ne (show (0 : Int32).toInt = 0 by decide) (show (a3 : Int32).toInt = a3.toInt from rfl) (bn_f c6 ?_))
                refine x_aloadn (x := 105) rfl rfl ?_
                refine x_iconst (v := 2) rfl ki_2 ?_
                refine y_iald (v := 0) (N := 3) 2 rfl (F.1 105 (100, 3) rfl rfl) (jinb_of (by decide)) (by decide) (F.2.2.2.1 105 rfl rfl 2).1 ?_
                refine x_iloadn (x := 1) rfl rfl ?_
                refine x_icne (tgt := 33) rfl rfl (bn_t (by decide) ?_)
                refine x_iconst (v := 0) rfl ki_0 ?_
                refine x_istore (ls' := [(4, .int 0), (0, .ref 105), (1, .int 0), (2, .int a3), (3, .int 1)]) rfl rfl rfl ?_
                refine x_aloadn (x := 105) rfl rfl ?_
                refine x_iconst (v := 0) rfl ki_0 ?_
                refine x_iloadn (x := 0) rfl rfl ?_
                refine y_iast (N := 3) 0 rfl (F.1 105 (100, 3) rfl rfl) rfl (jinb_of (by decide)) (by decide) ?_
                refine x_aloadn (x := 105) rfl rfl ?_
                refine x_iconst (v := 1) rfl ki_1 ?_
                refine x_iloadn (x := a3) rfl rfl ?_
                refine y_iast (N := 3) 1 rfl (F.1 105 (100, 3) rfl rfl) rfl (jinb_of (by decide)) (by decide) ?_
                refine x_aloadn (x := 105) rfl rfl ?_
                refine x_iconst (v := 2) rfl ki_2 ?_
                refine x_iloadn (x := 1) rfl rfl ?_
                refine y_iast (N := 3) 2 rfl (F.1 105 (100, 3) rfl rfl) rfl (jinb_of (by decide)) (by decide) ?_
                refine x_iload (x := 0) rfl rfl ?_
                refine x_zret rfl rfl (by first | decide | exact jp_01 _) ?_
                show jX m_X0_readHouses 97 0 0 32 [(0, .ref 98), (1, .int 0), (2, .int a3)] [.int 0] _ 0 0 _
                refine x_ifeq (tgt := 36) rfl rfl (br_t (by decide) ?_)
                refine x_bipush (v := 40) rfl kb_40 ?_
                refine x_aloadn (x := 98) rfl rfl ?_
                refine x_getR (b := 32) 0 0 rfl f_0_57 rfl (congrArg Prod.fst (F.1 98 (0, 16) rfl rfl)) (F.2.1 12544 32 rfl rfl) ?_
                refine x_getR (b := 49) 1 8 rfl f_0_120 rfl (congrArg Prod.fst (F.1 32 (1, 20) rfl rfl)) (F.2.1 4104 49 rfl rfl) ?_
                refine y_getI (v := 0) 8 3 rfl f_0_124 rfl (congrArg Prod.fst (F.1 49 (8, 4) rfl rfl)) (F.2.2.1 6275 0 rfl rfl) ?_
                refine x_inst (N := m_J9_min_7cf53) (As := [.int 40, .int 0]) (st := []) (d' := 96) (mc := 0) (ms := 0) (host := "") rfl t_J9_min_7cf53 ⟨Or.inl q_0_88, s_J9_min_7cf53⟩ rfl (by decide) rfl rfl ⟨by decide, by decide⟩ (jC.of rfl k_J9_min_7cf53 rfl ?_)
                show jX m_J9_min_7cf53 96 0 0 0 [(0, .int 40), (1, .int 0)] [] _ 0 0 _
                refine x_iloadn (x := 40) rfl rfl ?_
                refine x_iloadn (x := 0) rfl rfl ?_
                refine x_icgt (tgt := 9) rfl rfl (br_t (by decide) ?_)
                refine x_iloadn (x := 0) rfl rfl ?_
                refine x_iret rfl rfl ?_
                show jX m_X0_readHouses 97 0 0 51 [(0, .ref 98), (1, .int 0), (2, .int a3)] [.int 0] _ 0 0 _
                refine x_istoren (ls' := [(3, .int 0), (0, .ref 98), (1, .int 0), (2, .int a3)]) rfl rfl rfl ?_
                refine x_aloadn (x := 98) rfl rfl ?_
                refine x_aloadn (x := 98) rfl rfl ?_
                refine x_getR (b := 32) 0 0 rfl f_0_57 rfl (congrArg Prod.fst (F.1 98 (0, 16) rfl rfl)) (F.2.1 12544 32 rfl rfl) ?_
                refine x_getR (b := 47) 1 7 rfl f_0_129 rfl (congrArg Prod.fst (F.1 32 (1, 20) rfl rfl)) (F.2.1 4103 47 rfl rfl) ?_
                refine x_iconst (v := 3) rfl ki_3 ?_
                refine x_aloadn (x := 98) rfl rfl ?_
                refine x_getR (b := 102) 0 5 rfl f_0_21 rfl (congrArg Prod.fst (F.1 98 (0, 16) rfl rfl)) (F.2.1 12549 102 rfl rfl) ?_
                refine x_iconst (v := 0) rfl ki_0 ?_
                refine x_inv (N := m_X0_readLatest) (As := [.ref 47, .int 3, .ref 102, .int 0]) (b := 98) (st := []) (d' := 96) (mc := 0) (ms := 0) (host := "") 0 rfl t_X0_readLatest ⟨Or.inl q_0_132, i_X0_readLatest.1, i_X0_readLatest.2⟩ ⟨by decide, rfl⟩ (congrArg Prod.fst (F.1 98 (0, 16) rfl rfl)) rfl (by decide) rfl rfl ⟨by decide, by decide⟩ (jC.of rfl k_X0_readLatest rfl ?_)
                show jX m_X0_readLatest 96 0 0 0 [(0, .ref 98), (1, .ref 47), (2, .int 3), (3, .ref 102), (4, .int 0)] [] _ 0 0 _
                refine x_iconst (v := 0) rfl ki_0 ?_
                refine x_istore (ls' := [(5, .int 0), (0, .ref 98), (1, .ref 47), (2, .int 3), (3, .ref 102), (4, .int 0)]) rfl rfl rfl ?_
                refine x_iload (x := 0) rfl rfl ?_
                refine x_bipush (v := 40) rfl kb_40 ?_
                refine x_icge (tgt := 52) rfl rfl (br_f (by decide) ?_)
                refine x_iload (x := 0) rfl rfl ?_
                refine x_aloadn (x := 98) rfl rfl ?_
                refine x_getR (b := 32) 0 0 rfl f_0_57 rfl (congrArg Prod.fst (F.1 98 (0, 16) rfl rfl)) (F.2.1 12544 32 rfl rfl) ?_
                refine x_getR (b := 49) 1 8 rfl f_0_120 rfl (congrArg Prod.fst (F.1 32 (1, 20) rfl rfl)) (F.2.1 4104 49 rfl rfl) ?_
                refine y_getI (v := 0) 8 3 rfl f_0_124 rfl (congrArg Prod.fst (F.1 49 (8, 4) rfl rfl)) (F.2.2.1 6275 0 rfl rfl) ?_
                refine x_icge (tgt := 52) rfl rfl (br_t (by decide) ?_)
                refine x_iconst (v := 0) rfl ki_0 ?_
                refine x_istore (ls' := [(5, .int 0), (0, .ref 98), (1, .ref 47), (2, .int 3), (3, .ref 102), (4, .int 0)]) rfl rfl rfl ?_
                refine x_iload (x := 0) rfl rfl ?_
                refine x_aloadn (x := 47) rfl rfl ?_
                refine y_getI (v := 0) 8 3 rfl f_0_124 rfl (congrArg Prod.fst (F.1 47 (8, 4) rfl rfl)) (F.2.2.1 6019 0 rfl rfl) ?_
                refine x_icge (tgt := 161) rfl rfl (br_t (by decide) ?_)
                refine x_vret rfl rfl ?_
                show jX m_X0_readHouses 97 0 0 69 [(3, .int 0), (0, .ref 98), (1, .int 0), (2, .int a3)] [] _ 0 0 _
                refine x_aloadn (x := 98) rfl rfl ?_
                refine x_aloadn (x := 98) rfl rfl ?_
                refine x_getR (b := 32) 0 0 rfl f_0_57 rfl (congrArg Prod.fst (F.1 98 (0, 16) rfl rfl)) (F.2.1 12544 32 rfl rfl) ?_
                refine x_getR (b := 51) 1 9 rfl f_0_136 rfl (congrArg Prod.fst (F.1 32 (1, 20) rfl rfl)) (F.2.1 4105 51 rfl rfl) ?_
                refine x_iconst (v := 3) rfl ki_3 ?_
                refine x_aloadn (x := 98) rfl rfl ?_
                refine x_getR (b := 103) 0 6 rfl f_0_24 rfl (congrArg Prod.fst (F.1 98 (0, 16) rfl rfl)) (F.2.1 12550 103 rfl rfl) ?_
                refine x_iconst (v := (-1)) rfl ki_m1 ?_
                refine x_inv (N := m_X0_readLatest) (As := [.ref 51, .int 3, .ref 103, .int (-1)]) (b := 98) (st := []) (d' := 96) (mc := 0) (ms := 0) (host := "") 0 rfl t_X0_readLatest ⟨Or.inl q_0_132, i_X0_readLatest.1, i_X0_readLatest.2⟩ ⟨by decide, rfl⟩ (congrArg Prod.fst (F.1 98 (0, 16) rfl rfl)) rfl (by decide) rfl rfl ⟨by decide, by decide⟩ (jC.of rfl k_X0_readLatest rfl ?_)
                show jX m_X0_readLatest 96 0 0 0 [(0, .ref 98), (1, .ref 51), (2, .int 3), (3, .ref 103), (4, .int (-1))] [] _ 0 0 _
                refine x_iconst (v := 0) rfl ki_0 ?_
                refine x_istore (ls' := [(5, .int 0), (0, .ref 98), (1, .ref 51), (2, .int 3), (3, .ref 103), (4, .int (-1))]) rfl rfl rfl ?_
                refine x_iload (x := 0) rfl rfl ?_
                refine x_bipush (v := 40) rfl kb_40 ?_
                refine x_icge (tgt := 52) rfl rfl (br_f (by decide) ?_)
                refine x_iload (x := 0) rfl rfl ?_
                refine x_aloadn (x := 98) rfl rfl ?_
                refine x_getR (b := 32) 0 0 rfl f_0_57 rfl (congrArg Prod.fst (F.1 98 (0, 16) rfl rfl)) (F.2.1 12544 32 rfl rfl) ?_
                refine x_getR (b := 49) 1 8 rfl f_0_120 rfl (congrArg Prod.fst (F.1 32 (1, 20) rfl rfl)) (F.2.1 4104 49 rfl rfl) ?_
                refine y_getI (v := 0) 8 3 rfl f_0_124 rfl (congrArg Prod.fst (F.1 49 (8, 4) rfl rfl)) (F.2.2.1 6275 0 rfl rfl) ?_
                refine x_icge (tgt := 52) rfl rfl (br_t (by decide) ?_)
                refine x_iconst (v := 0) rfl ki_0 ?_
                refine x_istore (ls' := [(5, .int 0), (0, .ref 98), (1, .ref 51), (2, .int 3), (3, .ref 103), (4, .int (-1))]) rfl rfl rfl ?_
                refine x_iload (x := 0) rfl rfl ?_
                refine x_aloadn (x := 51) rfl rfl ?_
                refine y_getI (v := 0) 8 3 rfl f_0_124 rfl (congrArg Prod.fst (F.1 51 (8, 4) rfl rfl)) (F.2.2.1 6531 0 rfl rfl) ?_
                refine x_icge (tgt := 161) rfl rfl (br_t (by decide) ?_)
                refine x_vret rfl rfl ?_
                show jX m_X0_readHouses 97 0 0 86 [(3, .int 0), (0, .ref 98), (1, .int 0), (2, .int a3)] [] _ 0 0 _
                refine x_iconst (v := 0) rfl ki_0 ?_
                refine x_istore (ls' := [(4, .int 0), (3, .int 0), (0, .ref 98), (1, .int 0), (2, .int a3)]) rfl rfl rfl ?_
                refine x_iload (x := 0) rfl rfl ?_
                refine x_iloadn (x := 0) rfl rfl ?_
                refine x_icge (tgt := 172) rfl rfl (br_t (by decide) ?_)
                refine x_vret rfl rfl ?_
                show jX m_X0_turnTo 98 0 0 12 [(0, .ref 98), (1, .int 0), (2, .int a3)] [] _ 0 0 _
                refine x_vret rfl rfl ?_
                show jX m_X4_partOut 99 0 0 71 [(4, .int 0), (3, .int 0), (0, .ref 107), (1, .int a1), (2, .int a3)] [] _ 0 0 _
                refine x_lconst (v := 0) rfl kl_0 ?_
                refine x_lstore (ls' := [(5, .long 0), (4, .int 0), (3, .int 0), (0, .ref 107), (1, .int a1), (2, .int a3)]) rfl rfl rfl ?_
                refine x_iconst (v := 0) rfl ki_0 ?_
                refine x_istore (ls' := [(7, .int 0), (5, .long 0), (4, .int 0), (3, .int 0), (0, .ref 107), (1, .int a1), (2, .int a3)]) rfl rfl rfl ?_
                refine x_iload (x := 0) rfl rfl ?_
                refine x_aloadn (x := 107) rfl rfl ?_
                refine x_inv (N := m_X4_houses) (As := []) (b := 107) (st := [.int 0]) (d' := 98) (mc := 0) (ms := 0) (host := "") 4 rfl t_X4_houses ⟨Or.inl q_4_107, i_X4_houses.1, i_X4_houses.2⟩ ⟨by decide, rfl⟩ (congrArg Prod.fst (F.1 107 (4, 18) rfl rfl)) rfl (by decide) rfl rfl ⟨by decide, by decide⟩ (jC.of rfl k_X4_houses rfl ?_)
                show jX m_X4_houses 98 0 0 0 [(0, .ref 107)] [] _ 0 0 _
                refine x_bipush (v := 40) rfl kb_40 ?_
                refine x_aloadn (x := 107) rfl rfl ?_
                refine x_getR (b := 32) 4 0 rfl f_4_59 rfl (congrArg Prod.fst (F.1 107 (4, 18) rfl rfl)) (F.2.1 13696 32 rfl rfl) ?_
                refine x_getR (b := 49) 1 8 rfl f_4_71 rfl (congrArg Prod.fst (F.1 32 (1, 20) rfl rfl)) (F.2.1 4104 49 rfl rfl) ?_
                refine y_getI (v := 0) 8 3 rfl f_4_77 rfl (congrArg Prod.fst (F.1 49 (8, 4) rfl rfl)) (F.2.2.1 6275 0 rfl rfl) ?_
                refine x_inst (N := m_J9_min_7cf53) (As := [.int 40, .int 0]) (st := []) (d' := 97) (mc := 0) (ms := 0) (host := "") rfl t_J9_min_7cf53 ⟨Or.inl q_4_82, s_J9_min_7cf53⟩ rfl (by decide) rfl rfl ⟨by decide, by decide⟩ (jC.of rfl k_J9_min_7cf53 rfl ?_)
                show jX m_J9_min_7cf53 97 0 0 0 [(0, .int 40), (1, .int 0)] [] _ 0 0 _
                refine x_iloadn (x := 40) rfl rfl ?_
                refine x_iloadn (x := 0) rfl rfl ?_
                refine x_icgt (tgt := 9) rfl rfl (br_t (by decide) ?_)
                refine x_iloadn (x := 0) rfl rfl ?_
                refine x_iret rfl rfl ?_
                show jX m_X4_houses 98 0 0 15 [(0, .ref 107)] [.int 0] _ 0 0 _
                refine x_iret rfl rfl ?_
                show jX m_X4_partOut 99 0 0 83 [(7, .int 0), (5, .long 0), (4, .int 0), (3, .int 0), (0, .ref 107), (1, .int a1), (2, .int a3)] [.int 0, .int 0] _ 0 0 _
                refine x_icge (tgt := 187) rfl rfl (br_t (by decide) ?_)
                refine x_aloadn (x := 107) rfl rfl ?_
                refine x_iload (x := 0) rfl rfl ?_
                refine x_lload (x := 0) rfl rfl ?_
                refine x_inv (N := m_X4_share) (As := [.int 0, .long 0]) (b := 107) (st := []) (d' := 98) (mc := 0) (ms := 0) (host := "") 4 rfl t_X4_share ⟨Or.inl q_4_123, i_X4_share.1, i_X4_share.2⟩ ⟨by decide, rfl⟩ (congrArg Prod.fst (F.1 107 (4, 18) rfl rfl)) rfl (by decide) rfl rfl ⟨by decide, by decide⟩ (jC.of rfl k_X4_share rfl ?_)
                show jX m_X4_share 98 0 0 0 [(0, .ref 107), (1, .int 0), (2, .long 0)] [] _ 0 0 _
                refine x_lloadn (x := 0) rfl rfl ?_
                refine x_lconst (v := 0) rfl kl_0 ?_
                refine y_lcmp (v := 0) rfl (by decide) ?_
                refine x_ifne (tgt := 10) rfl rfl (bn_f (by decide) ?_)
                refine x_lconst (v := 0) rfl kl_0 ?_
                refine x_goto (tgt := 12) rfl rfl ?_
                refine x_lstore (ls' := [(4, .long 0), (0, .ref 107), (1, .int 0), (2, .long 0)]) rfl rfl rfl ?_
                refine x_iconst (v := 0) rfl ki_0 ?_
                refine x_istore (ls' := [(6, .int 0), (4, .long 0), (0, .ref 107), (1, .int 0), (2, .long 0)]) rfl rfl rfl ?_
                refine x_iload (x := 0) rfl rfl ?_
                refine x_aloadn (x := 107) rfl rfl ?_
                refine x_inv (N := m_X4_houses) (As := []) (b := 107) (st := [.int 0]) (d' := 97) (mc := 0) (ms := 0) (host := "") 4 rfl t_X4_houses ⟨Or.inl q_4_107, i_X4_houses.1, i_X4_houses.2⟩ ⟨by decide, rfl⟩ (congrArg Prod.fst (F.1 107 (4, 18) rfl rfl)) rfl (by decide) rfl rfl ⟨by decide, by decide⟩ (jC.of rfl k_X4_houses rfl ?_)
                show jX m_X4_houses 97 0 0 0 [(0, .ref 107)] [] _ 0 0 _
                refine x_bipush (v := 40) rfl kb_40 ?_
                refine x_aloadn (x := 107) rfl rfl ?_
                refine x_getR (b := 32) 4 0 rfl f_4_59 rfl (congrArg Prod.fst (F.1 107 (4, 18) rfl rfl)) (F.2.1 13696 32 rfl rfl) ?_
                refine x_getR (b := 49) 1 8 rfl f_4_71 rfl (congrArg Prod.fst (F.1 32 (1, 20) rfl rfl)) (F.2.1 4104 49 rfl rfl) ?_
                refine y_getI (v := 0) 8 3 rfl f_4_77 rfl (congrArg Prod.fst (F.1 49 (8, 4) rfl rfl)) (F.2.2.1 6275 0 rfl rfl) ?_
                refine x_inst (N := m_J9_min_7cf53) (As := [.int 40, .int 0]) (st := []) (d' := 96) (mc := 0) (ms := 0) (host := "") rfl t_J9_min_7cf53 ⟨Or.inl q_4_82, s_J9_min_7cf53⟩ rfl (by decide) rfl rfl ⟨by decide, by decide⟩ (jC.of rfl k_J9_min_7cf53 rfl ?_)
                show jX m_J9_min_7cf53 96 0 0 0 [(0, .int 40), (1, .int 0)] [] _ 0 0 _
                refine x_iloadn (x := 40) rfl rfl ?_
                refine x_iloadn (x := 0) rfl rfl ?_
                refine x_icgt (tgt := 9) rfl rfl (br_t (by decide) ?_)
                refine x_iloadn (x := 0) rfl rfl ?_
                refine x_iret rfl rfl ?_
                show jX m_X4_houses 97 0 0 15 [(0, .ref 107)] [.int 0] _ 0 0 _
                refine x_iret rfl rfl ?_
                show jX m_X4_share 98 0 0 23 [(6, .int 0), (4, .long 0), (0, .ref 107), (1, .int 0), (2, .long 0)] [.int 0, .int 0] _ 0 0 _
                refine x_icge (tgt := 113) rfl rfl (br_t (by decide) ?_)
                refine x_iconst (v := 0) rfl ki_0 ?_
                refine x_istore (ls' := [(6, .int 0), (4, .long 0), (0, .ref 107), (1, .int 0), (2, .long 0)]) rfl rfl rfl ?_
                refine x_iload (x := 0) rfl rfl ?_
                refine x_bipush (v := 40) rfl kb_40 ?_
                refine x_icge (tgt := 175) rfl rfl (br_f (by decide) ?_)
                refine x_lload (x := 0) rfl rfl ?_
                refine x_lconst (v := 0) rfl kl_0 ?_
                refine y_lcmp (v := 0) rfl (by decide) ?_
                refine x_ifle (tgt := 175) rfl rfl (br_t (by decide) ?_)
                refine x_vret rfl rfl ?_
                show jX m_X4_partOut 99 0 0 195 [(7, .int 0), (5, .long 0), (4, .int 0), (3, .int 0), (0, .ref 107), (1, .int a1), (2, .int a3)] [] _ 0 0 _
                refine x_iconst (v := 0) rfl ki_0 ?_
                refine x_istore (ls' := [(7, .int 0), (5, .long 0), (4, .int 0), (3, .int 0), (0, .ref 107), (1, .int a1), (2, .int a3)]) rfl rfl rfl ?_
                refine x_iload (x := 0) rfl rfl ?_
                refine x_aloadn (x := 107) rfl rfl ?_
                refine x_inv (N := m_X4_houses) (As := []) (b := 107) (st := [.int 0]) (d' := 98) (mc := 0) (ms := 0) (host := "") 4 rfl t_X4_houses ⟨Or.inl q_4_107, i_X4_houses.1, i_X4_houses.2⟩ ⟨by decide, rfl⟩ (congrArg Prod.fst (F.1 107 (4, 18) rfl rfl)) rfl (by decide) rfl rfl ⟨by decide, by decide⟩ (jC.of rfl k_X4_houses rfl ?_)
                show jX m_X4_houses 98 0 0 0 [(0, .ref 107)] [] _ 0 0 _
                refine x_bipush (v := 40) rfl kb_40 ?_
                refine x_aloadn (x := 107) rfl rfl ?_
                refine x_getR (b := 32) 4 0 rfl f_4_59 rfl (congrArg Prod.fst (F.1 107 (4, 18) rfl rfl)) (F.2.1 13696 32 rfl rfl) ?_
                refine x_getR (b := 49) 1 8 rfl f_4_71 rfl (congrArg Prod.fst (F.1 32 (1, 20) rfl rfl)) (F.2.1 4104 49 rfl rfl) ?_
                refine y_getI (v := 0) 8 3 rfl f_4_77 rfl (congrArg Prod.fst (F.1 49 (8, 4) rfl rfl)) (F.2.2.1 6275 0 rfl rfl) ?_
                refine x_inst (N := m_J9_min_7cf53) (As := [.int 40, .int 0]) (st := []) (d' := 97) (mc := 0) (ms := 0) (host := "") rfl t_J9_min_7cf53 ⟨Or.inl q_4_82, s_J9_min_7cf53⟩ rfl (by decide) rfl rfl ⟨by decide, by decide⟩ (jC.of rfl k_J9_min_7cf53 rfl ?_)
                show jX m_J9_min_7cf53 97 0 0 0 [(0, .int 40), (1, .int 0)] [] _ 0 0 _
                refine x_iloadn (x := 40) rfl rfl ?_
                refine x_iloadn (x := 0) rfl rfl ?_
                refine x_icgt (tgt := 9) rfl rfl (br_t (by decide) ?_)
                refine x_iloadn (x := 0) rfl rfl ?_
                refine x_iret rfl rfl ?_
                show jX m_X4_houses 98 0 0 15 [(0, .ref 107)] [.int 0] _ 0 0 _
                refine x_iret rfl rfl ?_
                show jX m_X4_partOut 99 0 0 204 [(7, .int 0), (5, .long 0), (4, .int 0), (3, .int 0), (0, .ref 107), (1, .int a1), (2, .int a3)] [.int 0, .int 0] _ 0 0 _
                refine x_icge (tgt := 275) rfl rfl (br_t (by decide) ?_)
                refine x_vret rfl rfl ?_
                show jX m_X11_owe 100 0 0 54 [(0, .ref 31), (1, .int a1), (2, .int a2), (3, .int a3)] [] _ 0 0 _
                refine x_iloadn (x := a2) rfl rfl ?_
                refine x_iconst (v := (-1)) rfl ki_m1 ?_
                refine x_icne (tgt := 69) rfl rfl (ti_ne (show (a2 : Int32).toInt = a2.toInt from rfl) (show ((-1) : Int32).toInt = (-1) by decide) (bn_f c5 ?_))
                refine x_aloadn (x := 31) rfl rfl ?_
                refine x_getR (b := 107) 11 8 rfl f_11_75 rfl (congrArg Prod.fst (F.1 31 (11, 13) rfl rfl)) (F.2.1 3976 107 rfl rfl) ?_
                refine x_inv (N := m_X4_owedByAll) (As := []) (b := 107) (st := []) (d' := 99) (mc := 0) (ms := 0) (host := "") 4 rfl t_X4_owedByAll ⟨Or.inl q_11_446, i_X4_owedByAll.1, i_X4_owedByAll.2⟩ ⟨by decide, rfl⟩ (congrArg Prod.fst (F.1 107 (4, 18) rfl rfl)) rfl (by decide) rfl rfl ⟨by decide, by decide⟩ (jC.of rfl k_X4_owedByAll rfl ?_)
                show jX m_X4_owedByAll 99 0 0 0 [(0, .ref 107)] [] _ 0 0 _
                refine x_iconst (v := 0) rfl ki_0 ?_
                refine x_istoren (ls' := [(1, .int 0), (0, .ref 107)]) rfl rfl rfl ?_
                refine x_iconst (v := 0) rfl ki_0 ?_
                refine x_istoren (ls' := [(2, .int 0), (1, .int 0), (0, .ref 107)]) rfl rfl rfl ?_
                refine x_iloadn (x := 0) rfl rfl ?_
                refine x_aloadn (x := 107) rfl rfl ?_
                refine x_inv (N := m_X4_houses) (As := []) (b := 107) (st := [.int 0]) (d' := 98) (mc := 0) (ms := 0) (host := "") 4 rfl t_X4_houses ⟨Or.inl q_4_107, i_X4_houses.1, i_X4_houses.2⟩ ⟨by decide, rfl⟩ (congrArg Prod.fst (F.1 107 (4, 18) rfl rfl)) rfl (by decide) rfl rfl ⟨by decide, by decide⟩ (jC.of rfl k_X4_houses rfl ?_)
                show jX m_X4_houses 98 0 0 0 [(0, .ref 107)] [] _ 0 0 _
                refine x_bipush (v := 40) rfl kb_40 ?_
                refine x_aloadn (x := 107) rfl rfl ?_
                refine x_getR (b := 32) 4 0 rfl f_4_59 rfl (congrArg Prod.fst (F.1 107 (4, 18) rfl rfl)) (F.2.1 13696 32 rfl rfl) ?_
                refine x_getR (b := 49) 1 8 rfl f_4_71 rfl (congrArg Prod.fst (F.1 32 (1, 20) rfl rfl)) (F.2.1 4104 49 rfl rfl) ?_
                refine y_getI (v := 0) 8 3 rfl f_4_77 rfl (congrArg Prod.fst (F.1 49 (8, 4) rfl rfl)) (F.2.2.1 6275 0 rfl rfl) ?_
                refine x_inst (N := m_J9_min_7cf53) (As := [.int 40, .int 0]) (st := []) (d' := 97) (mc := 0) (ms := 0) (host := "") rfl t_J9_min_7cf53 ⟨Or.inl q_4_82, s_J9_min_7cf53⟩ rfl (by decide) rfl rfl ⟨by decide, by decide⟩ (jC.of rfl k_J9_min_7cf53 rfl ?_)
                show jX m_J9_min_7cf53 97 0 0 0 [(0, .int 40), (1, .int 0)] [] _ 0 0 _
                refine x_iloadn (x := 40) rfl rfl ?_
                refine x_iloadn (x := 0) rfl rfl ?_
                refine x_icgt (tgt := 9) rfl rfl (br_t (by decide) ?_)
                refine x_iloadn (x := 0) rfl rfl ?_
                refine x_iret rfl rfl ?_
                show jX m_X4_houses 98 0 0 15 [(0, .ref 107)] [.int 0] _ 0 0 _
                refine x_iret rfl rfl ?_
                show jX m_X4_owedByAll 99 0 0 9 [(2, .int 0), (1, .int 0), (0, .ref 107)] [.int 0, .int 0] _ 0 0 _
                refine x_icge (tgt := 27) rfl rfl (br_t (by decide) ?_)
                refine x_iloadn (x := 0) rfl rfl ?_
                refine x_iret rfl rfl ?_
                show jX m_X11_owe 100 0 0 66 [(0, .ref 31), (1, .int a1), (2, .int a2), (3, .int a3)] [.int 0] _ 0 0 _
                refine x_goto (tgt := 78) rfl rfl ?_
                refine x_iret rfl rfl ?_
                exact jqe (show sp_owe a1 a2 a3 = 0 by unfold sp_owe; (repeat' split) <;> first | rfl | (exfalso; omega)) (hQ _ (by repeat (first | exact FM | refine jFb_si rfl ?_ | refine jFb_sl rfl ?_ | refine jFb_ci rfl ?_ | refine jFb_cl rfl ?_ | refine jFb_sr rfl ?_)) (by repeat (first | exact O | refine jOl_si rfl ?_ | refine jOl_sl rfl ?_ | refine jOl_ci rfl ?_ | refine jOl_cl rfl ?_ | refine jOl_sr rfl ?_)))
          ·
            refine x_aloadn (x := 31) rfl rfl ?_
            refine x_iloadn (x := a2) rfl rfl ?_
            refine x_inv (N := m_X11_isHolding) (As := [.int a2]) (b := 31) (st := []) (d' := 99) (mc := 0) (ms := 0) (host := "") 11 rfl t_X11_isHolding ⟨Or.inl q_11_415, i_X11_isHolding.1, i_X11_isHolding.2⟩ ⟨by decide, rfl⟩ (congrArg Prod.fst (F.1 31 (11, 13) rfl rfl)) rfl (by decide) rfl rfl ⟨by decide, by decide⟩ (jC.of rfl k_X11_isHolding rfl ?_)
            show jX m_X11_isHolding 99 0 0 0 [(0, .ref 31), (1, .int a2)] [] _ 0 0 _
            refine x_iloadn (x := a2) rfl rfl ?_
            refine x_iflt (tgt := 28) rfl rfl (ti_lt (show (a2 : Int32).toInt = a2.toInt from rfl) (show (0 : Int32).toInt = 0 by decide) ⟨fun c9 => ?_, fun c9 => ?_⟩)
            ·
              refine x_iconst (v := 0) rfl ki_0 ?_
              refine x_zret rfl rfl (by first | decide | exact jp_01 _) ?_
              show jX m_X11_owe 100 0 0 32 [(0, .ref 31), (1, .int a1), (2, .int a2), (3, .int a3)] [.int 0] _ 0 0 _
              refine x_ifne (tgt := 37) rfl rfl (bn_f (by decide) ?_)
              refine x_iconst (v := (-1)) rfl ki_m1 ?_
              refine x_iret rfl rfl ?_
              exact jqe (show sp_owe a1 a2 a3 = (-1) by unfold sp_owe; (repeat' split) <;> first | rfl | (exfalso; omega)) (hQ _ (by repeat (first | exact FM | refine jFb_si rfl ?_ | refine jFb_sl rfl ?_ | refine jFb_ci rfl ?_ | refine jFb_cl rfl ?_ | refine jFb_sr rfl ?_)) (by repeat (first | exact O | refine jOl_si rfl ?_ | refine jOl_sl rfl ?_ | refine jOl_ci rfl ?_ | refine jOl_cl rfl ?_ | refine jOl_sr rfl ?_)))
            ·
              refine x_iloadn (x := a2) rfl rfl ?_
              refine x_aloadn (x := 31) rfl rfl ?_
              refine x_getR (b := 32) 11 0 rfl f_11_10 rfl (congrArg Prod.fst (F.1 31 (11, 13) rfl rfl)) (F.2.1 3968 32 rfl rfl) ?_
              refine x_getR (b := 49) 1 8 rfl f_11_408 rfl (congrArg Prod.fst (F.1 32 (1, 20) rfl rfl)) (F.2.1 4104 49 rfl rfl) ?_
              refine y_getI (v := 0) 8 3 rfl f_11_142 rfl (congrArg Prod.fst (F.1 49 (8, 4) rfl rfl)) (F.2.2.1 6275 0 rfl rfl) ?_
              refine x_icge (tgt := 28) rfl rfl (ti_ge (show (a2 : Int32).toInt = a2.toInt from rfl) (show (0 : Int32).toInt = 0 by decide) ⟨fun c10 => ?_, fun c10 => ?_⟩)
              ·
                refine x_iconst (v := 0) rfl ki_0 ?_
                refine x_zret rfl rfl (by first | decide | exact jp_01 _) ?_
                show jX m_X11_owe 100 0 0 32 [(0, .ref 31), (1, .int a1), (2, .int a2), (3, .int a3)] [.int 0] _ 0 0 _
                refine x_ifne (tgt := 37) rfl rfl (bn_f (by decide) ?_)
                refine x_iconst (v := (-1)) rfl ki_m1 ?_
                refine x_iret rfl rfl ?_
                exact jqe (show sp_owe a1 a2 a3 = (-1) by unfold sp_owe; (repeat' split) <;> first | rfl | (exfalso; omega)) (hQ _ (by repeat (first | exact FM | refine jFb_si rfl ?_ | refine jFb_sl rfl ?_ | refine jFb_ci rfl ?_ | refine jFb_cl rfl ?_ | refine jFb_sr rfl ?_)) (by repeat (first | exact O | refine jOl_si rfl ?_ | refine jOl_sl rfl ?_ | refine jOl_ci rfl ?_ | refine jOl_cl rfl ?_ | refine jOl_sr rfl ?_)))
              ·
                refine x_iloadn (x := a2) rfl rfl ?_
                refine x_bipush (v := 40) rfl kb_40 ?_
                refine x_icge (tgt := 28) rfl rfl (ti_ge (show (a2 : Int32).toInt = a2.toInt from rfl) (show (40 : Int32).toInt = 40 by decide) ⟨fun c11 => ?_, fun c11 => ?_⟩)
                ·
                  refine x_iconst (v := 0) rfl ki_0 ?_
                  refine x_zret rfl rfl (by first | decide | exact jp_01 _) ?_
                  show jX m_X11_owe 100 0 0 32 [(0, .ref 31), (1, .int a1), (2, .int a2), (3, .int a3)] [.int 0] _ 0 0 _
                  refine x_ifne (tgt := 37) rfl rfl (bn_f (by decide) ?_)
                  refine x_iconst (v := (-1)) rfl ki_m1 ?_
                  refine x_iret rfl rfl ?_
                  exact jqe (show sp_owe a1 a2 a3 = (-1) by unfold sp_owe; (repeat' split) <;> first | rfl | (exfalso; omega)) (hQ _ (by repeat (first | exact FM | refine jFb_si rfl ?_ | refine jFb_sl rfl ?_ | refine jFb_ci rfl ?_ | refine jFb_cl rfl ?_ | refine jFb_sr rfl ?_)) (by repeat (first | exact O | refine jOl_si rfl ?_ | refine jOl_sl rfl ?_ | refine jOl_ci rfl ?_ | refine jOl_cl rfl ?_ | refine jOl_sr rfl ?_)))
                ·
                  refine x_iconst (v := 1) rfl ki_1 ?_
                  refine x_goto (tgt := 29) rfl rfl ?_
                  refine x_zret rfl rfl (by first | decide | exact jp_01 _) ?_
                  show jX m_X11_owe 100 0 0 32 [(0, .ref 31), (1, .int a1), (2, .int a2), (3, .int a3)] [.int 1] _ 0 0 _
                  refine x_ifne (tgt := 37) rfl rfl (bn_t (by decide) ?_)
                  refine x_aloadn (x := 31) rfl rfl ?_
                  refine x_getR (b := 78) 11 4 rfl f_11_41 rfl (congrArg Prod.fst (F.1 31 (11, 13) rfl rfl)) (F.2.1 3972 78 rfl rfl) ?_
                  refine x_iloadn (x := a3) rfl rfl ?_
                  refine x_inv (N := m_X7_asKnown) (As := [.int a3]) (b := 78) (st := []) (d' := 99) (mc := 0) (ms := 0) (host := "") 7 rfl t_X7_asKnown ⟨Or.inl q_11_240, i_X7_asKnown.1, i_X7_asKnown.2⟩ ⟨by decide, rfl⟩ (congrArg Prod.fst (F.1 78 (7, 16) rfl rfl)) rfl (by decide) rfl rfl ⟨by decide, by decide⟩ (jC.of rfl k_X7_asKnown rfl ?_)
                  show jX m_X7_asKnown 99 0 0 0 [(0, .ref 78), (1, .int a3)] [] _ 0 0 _
                  refine x_aloadn (x := 78) rfl rfl ?_
                  refine x_getR (b := 86) 7 15 rfl f_7_52 rfl (congrArg Prod.fst (F.1 78 (7, 16) rfl rfl)) (F.2.1 9999 86 rfl rfl) ?_
                  refine x_iloadn (x := a3) rfl rfl ?_
                  refine x_iconst (v := 0) rfl ki_0 ?_
                  refine x_aloadn (x := 78) rfl rfl ?_
                  refine x_getR (b := 32) 7 0 rfl f_7_55 rfl (congrArg Prod.fst (F.1 78 (7, 16) rfl rfl)) (F.2.1 9984 32 rfl rfl) ?_
                  refine y_getI (v := 1) 1 19 rfl f_7_140 rfl (congrArg Prod.fst (F.1 32 (1, 20) rfl rfl)) (F.2.2.1 4115 1 rfl rfl) ?_
                  refine x_inst (N := m_X11_isFresh) (As := [.ref 86, .int a3, .int 0, .int 1]) (st := []) (d' := 98) (mc := 0) (ms := 0) (host := "ParishChest") rfl t_X11_isFresh ⟨Or.inr q_7_143, s_X11_isFresh⟩ rfl (by decide) rfl rfl ⟨by decide, by decide⟩ (jC.of rfl k_X11_isFresh rfl ?_)
                  show jX m_X11_isFresh 98 0 0 0 [(0, .ref 86), (1, .int a3), (2, .int 0), (3, .int 1)] [] _ 0 0 _
                  refine x_aloadn (x := 86) rfl rfl ?_
                  refine y_alen (N := 3) (v := 3) rfl (F.1 86 (100, 3) rfl rfl) (by decide) (by decide) ?_
                  refine x_iconst (v := 3) rfl ki_3 ?_
                  refine x_icge (tgt := 8) rfl rfl (br_t (by decide) ?_)
                  refine x_aloadn (x := 86) rfl rfl ?_
                  refine x_iconst (v := 0) rfl ki_0 ?_
                  refine y_iald (v := 0) (N := 3) 0 rfl (F.1 86 (100, 3) rfl rfl) (jinb_of (by decide)) (by decide) (F.2.2.2.1 86 rfl rfl 0).1 ?_
                  refine x_iloadn (x := a3) rfl rfl ?_
                  refine x_icne (tgt := 33) rfl rfl (ti_ne (show (0 : Int32).toInt = 0 by decide) (show (a3 : Int32).toInt = a3.toInt from rfl) ⟨fun c12 => ?_, fun c12 => ?_⟩)
                  ·
                    refine x_iconst (v := 0) rfl ki_0 ?_
                    refine x_istore (ls' := [(4, .int 0), (0, .ref 86), (1, .int a3), (2, .int 0), (3, .int 1)]) rfl rfl rfl ?_
                    refine x_aloadn (x := 86) rfl rfl ?_
                    refine x_iconst (v := 0) rfl ki_0 ?_
                    refine x_iloadn (x := a3) rfl rfl ?_
                    refine y_iast (N := 3) 0 rfl (F.1 86 (100, 3) rfl rfl) rfl (jinb_of (by decide)) (by decide) ?_
                    refine x_aloadn (x := 86) rfl rfl ?_
                    refine x_iconst (v := 1) rfl ki_1 ?_
                    refine x_iloadn (x := 0) rfl rfl ?_
                    refine y_iast (N := 3) 1 rfl (F.1 86 (100, 3) rfl rfl) rfl (jinb_of (by decide)) (by decide) ?_
                    refine x_aloadn (x := 86) rfl rfl ?_
                    refine x_iconst (v := 2) rfl ki_2 ?_
                    refine x_iloadn (x := 1) rfl rfl ?_
                    refine y_iast (N := 3) 2 rfl (F.1 86 (100, 3) rfl rfl) rfl (jinb_of (by decide)) (by decide) ?_
                    refine x_iload (x := 0) rfl rfl ?_
                    refine x_zret rfl rfl (by first | decide | exact jp_01 _) ?_
                    show jX m_X7_asKnown 99 0 0 16 [(0, .ref 78), (1, .int a3)] [.int 0] _ 0 0 _
                    refine x_ifeq (tgt := 20) rfl rfl (br_t (by decide) ?_)
                    refine x_iconst (v := 0) rfl ki_0 ?_
                    refine x_istoren (ls' := [(2, .int 0), (0, .ref 78), (1, .int a3)]) rfl rfl rfl ?_
                    refine x_iloadn (x := 0) rfl rfl ?_
                    refine x_aloadn (x := 78) rfl rfl ?_
                    refine x_getR (b := 32) 7 0 rfl f_7_55 rfl (congrArg Prod.fst (F.1 78 (7, 16) rfl rfl)) (F.2.1 9984 32 rfl rfl) ?_
                    refine x_getR (b := 33) 1 0 rfl f_7_63 rfl (congrArg Prod.fst (F.1 32 (1, 20) rfl rfl)) (F.2.1 4096 33 rfl rfl) ?_
                    refine y_getI (v := 0) 8 3 rfl f_7_85 rfl (congrArg Prod.fst (F.1 33 (8, 4) rfl rfl)) (F.2.2.1 4227 0 rfl rfl) ?_
                    refine x_iconst (v := 3) rfl ki_3 ?_
                    refine y_imul (v := 0) rfl (by decide) ?_
                    refine x_icge (tgt := 96) rfl rfl (br_t (by decide) ?_)
                    refine x_aloadn (x := 78) rfl rfl ?_
                    refine x_iconst (v := 0) rfl ki_0 ?_
                    refine x_putI 7 13 rfl f_7_46 rfl (jfin_no TX7 RX7 16 rfl rfl) (congrArg Prod.fst (F.1 78 (7, 16) rfl rfl)) rfl ?_
                    refine x_iconst (v := 0) rfl ki_0 ?_
                    refine x_istoren (ls' := [(2, .int 0), (0, .ref 78), (1, .int a3)]) rfl rfl rfl ?_
                    refine x_iloadn (x := 0) rfl rfl ?_
                    refine x_aloadn (x := 78) rfl rfl ?_
                    refine x_getR (b := 32) 7 0 rfl f_7_55 rfl (congrArg Prod.fst (F.1 78 (7, 16) rfl rfl)) (F.2.1 9984 32 rfl rfl) ?_
                    refine x_getR (b := 39) 1 3 rfl f_7_150 rfl (congrArg Prod.fst (F.1 32 (1, 20) rfl rfl)) (F.2.1 4099 39 rfl rfl) ?_
                    refine y_getI (v := 0) 8 3 rfl f_7_85 rfl (congrArg Prod.fst (F.1 39 (8, 4) rfl rfl)) (F.2.2.1 4995 0 rfl rfl) ?_
                    refine x_icge (tgt := 175) rfl rfl (br_t (by decide) ?_)
                    refine x_vret rfl rfl ?_
                    show jX m_X11_owe 100 0 0 45 [(0, .ref 31), (1, .int a1), (2, .int a2), (3, .int a3)] [] _ 0 0 _
                    refine x_aloadn (x := 31) rfl rfl ?_
                    refine x_getR (b := 107) 11 8 rfl f_11_75 rfl (congrArg Prod.fst (F.1 31 (11, 13) rfl rfl)) (F.2.1 3976 107 rfl rfl) ?_
                    refine x_iloadn (x := a1) rfl rfl ?_
                    refine x_iloadn (x := a3) rfl rfl ?_
                    refine x_inv (N := m_X4_partOut) (As := [.int a1, .int a3]) (b := 107) (st := []) (d' := 99) (mc := 0) (ms := 0) (host := "") 4 rfl t_X4_partOut ⟨Or.inl q_11_443, i_X4_partOut.1, i_X4_partOut.2⟩ ⟨by decide, rfl⟩ (congrArg Prod.fst (F.1 107 (4, 18) rfl rfl)) rfl (by decide) rfl rfl ⟨by decide, by decide⟩ (jC.of rfl k_X4_partOut rfl ?_)
                    show jX m_X4_partOut 99 0 0 0 [(0, .ref 107), (1, .int a1), (2, .int a3)] [] _ 0 0 _
                    refine x_aloadn (x := 107) rfl rfl ?_
                    refine x_getR (b := 111) 4 6 rfl f_4_22 rfl (congrArg Prod.fst (F.1 107 (4, 18) rfl rfl)) (F.2.1 13702 111 rfl rfl) ?_
                    refine x_iloadn (x := a1) rfl rfl ?_
                    refine x_iloadn (x := a3) rfl rfl ?_
                    refine x_aloadn (x := 107) rfl rfl ?_
                    refine x_getR (b := 32) 4 0 rfl f_4_59 rfl (congrArg Prod.fst (F.1 107 (4, 18) rfl rfl)) (F.2.1 13696 32 rfl rfl) ?_
                    refine y_getI (v := 1) 1 19 rfl f_4_88 rfl (congrArg Prod.fst (F.1 32 (1, 20) rfl rfl)) (F.2.2.1 4115 1 rfl rfl) ?_
                    refine x_inst (N := m_X11_isFresh) (As := [.ref 111, .int a1, .int a3, .int 1]) (st := []) (d' := 98) (mc := 0) (ms := 0) (host := "ParishChest") rfl t_X11_isFresh ⟨Or.inr q_4_91, s_X11_isFresh⟩ rfl (by decide) rfl rfl ⟨by decide, by decide⟩ (jC.of rfl k_X11_isFresh rfl ?_)
                    show jX m_X11_isFresh 98 0 0 0 [(0, .ref 111), (1, .int a1), (2, .int a3), (3, .int 1)] [] _ 0 0 _
                    refine x_aloadn (x := 111) rfl rfl ?_
                    refine y_alen (N := 3) (v := 3) rfl (F.1 111 (100, 3) rfl rfl) (by decide) (by decide) ?_
                    refine x_iconst (v := 3) rfl ki_3 ?_
                    refine x_icge (tgt := 8) rfl rfl (br_t (by decide) ?_)
                    refine x_aloadn (x := 111) rfl rfl ?_
                    refine x_iconst (v := 0) rfl ki_0 ?_
                    refine y_iald (v := 0) (N := 3) 0 rfl (F.1 111 (100, 3) rfl rfl) (jinb_of (by decide)) (by decide) (F.2.2.2.1 111 rfl rfl 0).1 ?_
                    refine x_iloadn (x := a1) rfl rfl ?_
                    refine x_icne (tgt := 33) rfl rfl (ti_ne (show (0 : Int32).toInt = 0 by decide) (show (a1 : Int32).toInt = a1.toInt from rfl) ⟨fun c13 => ?_, fun c13 => ?_⟩)
                    ·
                      refine x_iconst (v := 0) rfl ki_0 ?_
                      refine x_istore (ls' := [(4, .int 0), (0, .ref 111), (1, .int a1), (2, .int a3), (3, .int 1)]) rfl rfl rfl ?_
                      refine x_aloadn (x := 111) rfl rfl ?_
                      refine x_iconst (v := 0) rfl ki_0 ?_
                      refine x_iloadn (x := a1) rfl rfl ?_
                      refine y_iast (N := 3) 0 rfl (F.1 111 (100, 3) rfl rfl) rfl (jinb_of (by decide)) (by decide) ?_
                      refine x_aloadn (x := 111) rfl rfl ?_
                      refine x_iconst (v := 1) rfl ki_1 ?_
                      refine x_iloadn (x := a3) rfl rfl ?_
                      refine y_iast (N := 3) 1 rfl (F.1 111 (100, 3) rfl rfl) rfl (jinb_of (by decide)) (by decide) ?_
                      refine x_aloadn (x := 111) rfl rfl ?_
                      refine x_iconst (v := 2) rfl ki_2 ?_
                      refine x_iloadn (x := 1) rfl rfl ?_
                      refine y_iast (N := 3) 2 rfl (F.1 111 (100, 3) rfl rfl) rfl (jinb_of (by decide)) (by decide) ?_
                      refine x_iload (x := 0) rfl rfl ?_
                      refine x_zret rfl rfl (by first | decide | exact jp_01 _) ?_
                      show jX m_X4_partOut 99 0 0 16 [(0, .ref 107), (1, .int a1), (2, .int a3)] [.int 0] _ 0 0 _
                      refine x_ifeq (tgt := 20) rfl rfl (br_t (by decide) ?_)
                      refine x_aloadn (x := 107) rfl rfl ?_
                      refine x_getR (b := 32) 4 0 rfl f_4_59 rfl (congrArg Prod.fst (F.1 107 (4, 18) rfl rfl)) (F.2.1 13696 32 rfl rfl) ?_
                      refine x_getR (b := 53) 1 10 rfl f_4_95 rfl (congrArg Prod.fst (F.1 32 (1, 20) rfl rfl)) (F.2.1 4106 53 rfl rfl) ?_
                      refine x_iloadn (x := a1) rfl rfl ?_
                      refine x_iconst (v := 2) rfl ki_2 ?_
                      refine x_inv (N := m_X8_at) (As := [.int a1, .int 2]) (b := 53) (st := []) (d' := 98) (mc := 0) (ms := 0) (host := "") 8 rfl t_X8_at ⟨Or.inl q_4_98, i_X8_at.1, i_X8_at.2⟩ ⟨by decide, rfl⟩ (congrArg Prod.fst (F.1 53 (8, 4) rfl rfl)) rfl (by decide) rfl rfl ⟨by decide, by decide⟩ (jC.of rfl k_X8_at rfl ?_)
                      show jX m_X8_at 98 0 0 0 [(0, .ref 53), (1, .int a1), (2, .int 2)] [] _ 0 0 _
                      refine x_iloadn (x := a1) rfl rfl ?_
                      refine x_iflt (tgt := 24) rfl rfl (ti_lt (show (a1 : Int32).toInt = a1.toInt from rfl) (show (0 : Int32).toInt = 0 by decide) (br_f c2 ?_))
                      refine x_iloadn (x := a1) rfl rfl ?_
                      refine x_aloadn (x := 53) rfl rfl ?_
                      refine y_getI (v := 0) 8 3 rfl f_8_7 rfl (congrArg Prod.fst (F.1 53 (8, 4) rfl rfl)) (F.2.2.1 6787 0 rfl rfl) ?_
                      refine x_icge (tgt := 24) rfl rfl (ti_ge (show (a1 : Int32).toInt = a1.toInt from rfl) (show (0 : Int32).toInt = 0 by decide) (br_f c3 ?_))
                      refine x_iloadn (x := 2) rfl rfl ?_
                      refine x_iflt (tgt := 24) rfl rfl (br_f (by decide) ?_)
                      refine x_iloadn (x := 2) rfl rfl ?_
                      refine x_aloadn (x := 53) rfl rfl ?_
                      refine y_getI (v := 4) 8 0 rfl f_8_19 rfl (congrArg Prod.fst (F.1 53 (8, 4) rfl rfl)) (F.2.2.1 6784 4 rfl rfl) ?_
                      refine x_iclt (tgt := 26) rfl rfl (br_t (by decide) ?_)
                      refine x_aloadn (x := 53) rfl rfl ?_
                      refine x_getR (b := 54) 8 2 rfl f_8_25 rfl (congrArg Prod.fst (F.1 53 (8, 4) rfl rfl)) (F.2.1 6786 54 rfl rfl) ?_
                      refine x_iloadn (x := a1) rfl rfl ?_
                      refine x_aloadn (x := 53) rfl rfl ?_
                      refine y_getI (v := 4) 8 0 rfl f_8_19 rfl (congrArg Prod.fst (F.1 53 (8, 4) rfl rfl)) (F.2.2.1 6784 4 rfl rfl) ?_
                      refine x_imul rfl ?_
                      refine x_iloadn (x := 2) rfl rfl ?_
                      refine x_iadd rfl ?_
                      refine y_iald (v := 0) (N := 160) ((a1 * 4) + 2).toNatClampNeg rfl (F.1 54 (100, 160) rfl rfl) (vpi (by omega)) rfl (F.2.2.2.1 54 rfl rfl _).1 ?_
                      refine x_iret rfl rfl ?_
                      show jX m_X4_partOut 99 0 0 32 [(0, .ref 107), (1, .int a1), (2, .int a3)] [.int 0] _ 0 0 _
                      refine x_istoren (ls' := [(3, .int 0), (0, .ref 107), (1, .int a1), (2, .int a3)]) rfl rfl rfl ?_
                      refine x_aloadn (x := 107) rfl rfl ?_
                      refine x_getR (b := 32) 4 0 rfl f_4_59 rfl (congrArg Prod.fst (F.1 107 (4, 18) rfl rfl)) (F.2.1 13696 32 rfl rfl) ?_
                      refine x_getR (b := 53) 1 10 rfl f_4_95 rfl (congrArg Prod.fst (F.1 32 (1, 20) rfl rfl)) (F.2.1 4106 53 rfl rfl) ?_
                      refine x_iloadn (x := a1) rfl rfl ?_
                      refine x_iconst (v := 3) rfl ki_3 ?_
                      refine x_inv (N := m_X8_at) (As := [.int a1, .int 3]) (b := 53) (st := []) (d' := 98) (mc := 0) (ms := 0) (host := "") 8 rfl t_X8_at ⟨Or.inl q_4_98, i_X8_at.1, i_X8_at.2⟩ ⟨by decide, rfl⟩ (congrArg Prod.fst (F.1 53 (8, 4) rfl rfl)) rfl (by decide) rfl rfl ⟨by decide, by decide⟩ (jC.of rfl k_X8_at rfl ?_)
                      show jX m_X8_at 98 0 0 0 [(0, .ref 53), (1, .int a1), (2, .int 3)] [] _ 0 0 _
                      refine x_iloadn (x := a1) rfl rfl ?_
                      refine x_iflt (tgt := 24) rfl rfl (ti_lt (show (a1 : Int32).toInt = a1.toInt from rfl) (show (0 : Int32).toInt = 0 by decide) (br_f c2 ?_))
                      refine x_iloadn (x := a1) rfl rfl ?_
                      refine x_aloadn (x := 53) rfl rfl ?_
                      refine y_getI (v := 0) 8 3 rfl f_8_7 rfl (congrArg Prod.fst (F.1 53 (8, 4) rfl rfl)) (F.2.2.1 6787 0 rfl rfl) ?_
                      refine x_icge (tgt := 24) rfl rfl (ti_ge (show (a1 : Int32).toInt = a1.toInt from rfl) (show (0 : Int32).toInt = 0 by decide) (br_f c3 ?_))
                      refine x_iloadn (x := 3) rfl rfl ?_
                      refine x_iflt (tgt := 24) rfl rfl (br_f (by decide) ?_)
                      refine x_iloadn (x := 3) rfl rfl ?_
                      refine x_aloadn (x := 53) rfl rfl ?_
                      refine y_getI (v := 4) 8 0 rfl f_8_19 rfl (congrArg Prod.fst (F.1 53 (8, 4) rfl rfl)) (F.2.2.1 6784 4 rfl rfl) ?_
                      refine x_iclt (tgt := 26) rfl rfl (br_t (by decide) ?_)
                      refine x_aloadn (x := 53) rfl rfl ?_
                      refine x_getR (b := 54) 8 2 rfl f_8_25 rfl (congrArg Prod.fst (F.1 53 (8, 4) rfl rfl)) (F.2.1 6786 54 rfl rfl) ?_
                      refine x_iloadn (x := a1) rfl rfl ?_
                      refine x_aloadn (x := 53) rfl rfl ?_
                      refine y_getI (v := 4) 8 0 rfl f_8_19 rfl (congrArg Prod.fst (F.1 53 (8, 4) rfl rfl)) (F.2.2.1 6784 4 rfl rfl) ?_
                      refine x_imul rfl ?_
                      refine x_iloadn (x := 3) rfl rfl ?_
                      refine x_iadd rfl ?_
                      refine y_iald (v := 0) (N := 160) ((a1 * 4) + 3).toNatClampNeg rfl (F.1 54 (100, 160) rfl rfl) (vpi (by omega)) rfl (F.2.2.2.1 54 rfl rfl _).1 ?_
                      refine x_iret rfl rfl ?_
                      show jX m_X4_partOut 99 0 0 45 [(3, .int 0), (0, .ref 107), (1, .int a1), (2, .int a3)] [.int 0] _ 0 0 _
                      refine x_istore (ls' := [(4, .int 0), (3, .int 0), (0, .ref 107), (1, .int a1), (2, .int a3)]) rfl rfl rfl ?_
                      refine x_aloadn (x := 107) rfl rfl ?_
                      refine x_getR (b := 98) 4 2 rfl f_4_67 rfl (congrArg Prod.fst (F.1 107 (4, 18) rfl rfl)) (F.2.1 13698 98 rfl rfl) ?_
                      refine x_aloadn (x := 107) rfl rfl ?_
                      refine x_getR (b := 32) 4 0 rfl f_4_59 rfl (congrArg Prod.fst (F.1 107 (4, 18) rfl rfl)) (F.2.1 13696 32 rfl rfl) ?_
                      refine x_getR (b := 53) 1 10 rfl f_4_95 rfl (congrArg Prod.fst (F.1 32 (1, 20) rfl rfl)) (F.2.1 4106 53 rfl rfl) ?_
                      refine x_iloadn (x := a1) rfl rfl ?_
                      refine x_iconst (v := 1) rfl ki_1 ?_
                      refine x_inv (N := m_X8_at) (As := [.int a1, .int 1]) (b := 53) (st := [.ref 98]) (d' := 98) (mc := 0) (ms := 0) (host := "") 8 rfl t_X8_at ⟨Or.inl q_4_98, i_X8_at.1, i_X8_at.2⟩ ⟨by decide, rfl⟩ (congrArg Prod.fst (F.1 53 (8, 4) rfl rfl)) rfl (by decide) rfl rfl ⟨by decide, by decide⟩ (jC.of rfl k_X8_at rfl ?_)
                      show jX m_X8_at 98 0 0 0 [(0, .ref 53), (1, .int a1), (2, .int 1)] [] _ 0 0 _
                      refine x_iloadn (x := a1) rfl rfl ?_
                      refine x_iflt (tgt := 24) rfl rfl (ti_lt (show (a1 : Int32).toInt = a1.toInt from rfl) (show (0 : Int32).toInt = 0 by decide) (br_f c2 ?_))
                      refine x_iloadn (x := a1) rfl rfl ?_
                      refine x_aloadn (x := 53) rfl rfl ?_
                      refine y_getI (v := 0) 8 3 rfl f_8_7 rfl (congrArg Prod.fst (F.1 53 (8, 4) rfl rfl)) (F.2.2.1 6787 0 rfl rfl) ?_
                      refine x_icge (tgt := 24) rfl rfl (ti_ge (show (a1 : Int32).toInt = a1.toInt from rfl) (show (0 : Int32).toInt = 0 by decide) (br_f c3 ?_))
                      refine x_iloadn (x := 1) rfl rfl ?_
                      refine x_iflt (tgt := 24) rfl rfl (br_f (by decide) ?_)
                      refine x_iloadn (x := 1) rfl rfl ?_
                      refine x_aloadn (x := 53) rfl rfl ?_
                      refine y_getI (v := 4) 8 0 rfl f_8_19 rfl (congrArg Prod.fst (F.1 53 (8, 4) rfl rfl)) (F.2.2.1 6784 4 rfl rfl) ?_
                      refine x_iclt (tgt := 26) rfl rfl (br_t (by decide) ?_)
                      refine x_aloadn (x := 53) rfl rfl ?_
                      refine x_getR (b := 54) 8 2 rfl f_8_25 rfl (congrArg Prod.fst (F.1 53 (8, 4) rfl rfl)) (F.2.1 6786 54 rfl rfl) ?_
                      refine x_iloadn (x := a1) rfl rfl ?_
                      refine x_aloadn (x := 53) rfl rfl ?_
                      refine y_getI (v := 4) 8 0 rfl f_8_19 rfl (congrArg Prod.fst (F.1 53 (8, 4) rfl rfl)) (F.2.2.1 6784 4 rfl rfl) ?_
                      refine x_imul rfl ?_
                      refine x_iloadn (x := 1) rfl rfl ?_
                      refine x_iadd rfl ?_
                      refine y_iald (v := 0) (N := 160) ((a1 * 4) + 1).toNatClampNeg rfl (F.1 54 (100, 160) rfl rfl) (vpi (by omega)) rfl (F.2.2.2.1 54 rfl rfl _).1 ?_
                      refine x_iret rfl rfl ?_
                      show jX m_X4_partOut 99 0 0 63 [(4, .int 0), (3, .int 0), (0, .ref 107), (1, .int a1), (2, .int a3)] [.int 0, .ref 98] _ 0 0 _
                      refine x_sipush (v := 366) rfl ks_366 ?_
                      refine y_imul (v := 0) rfl (by decide) ?_
                      refine x_iloadn (x := a3) rfl rfl ?_
                      refine x_inv (N := m_X0_turnTo) (As := [.int 0, .int a3]) (b := 98) (st := []) (d' := 98) (mc := 0) (ms := 0) (host := "") 0 rfl t_X0_turnTo ⟨Or.inl q_4_101, i_X0_turnTo.1, i_X0_turnTo.2⟩ ⟨by decide, rfl⟩ (congrArg Prod.fst (F.1 98 (0, 16) rfl rfl)) rfl (by decide) rfl rfl ⟨by decide, by decide⟩ (jC.of rfl k_X0_turnTo rfl ?_)
                      show jX m_X0_turnTo 98 0 0 0 [(0, .ref 98), (1, .int 0), (2, .int a3)] [] _ 0 0 _
                      refine x_aloadn (x := 98) rfl rfl ?_
                      refine x_iloadn (x := 0) rfl rfl ?_
                      refine x_iloadn (x := a3) rfl rfl ?_
                      refine x_inv (N := m_X0_readLaws) (As := [.int 0, .int a3]) (b := 98) (st := []) (d' := 97) (mc := 0) (ms := 0) (host := "") 0 rfl t_X0_readLaws ⟨Or.inl q_0_65, i_X0_readLaws.1, i_X0_readLaws.2⟩ ⟨by decide, rfl⟩ (congrArg Prod.fst (F.1 98 (0, 16) rfl rfl)) rfl (by decide) rfl rfl ⟨by decide, by decide⟩ (jC.of rfl k_X0_readLaws rfl ?_)
                      show jX m_X0_readLaws 97 0 0 0 [(0, .ref 98), (1, .int 0), (2, .int a3)] [] _ 0 0 _
                      refine x_aloadn (x := 98) rfl rfl ?_
                      refine x_iloadn (x := 0) rfl rfl ?_
                      refine x_putI 0 10 rfl f_0_37 rfl (jfin_no TX0 RX0 16 rfl rfl) (congrArg Prod.fst (F.1 98 (0, 16) rfl rfl)) rfl ?_
                      refine x_aloadn (x := 98) rfl rfl ?_
                      refine x_iloadn (x := a3) rfl rfl ?_
                      refine x_putI 0 11 rfl f_0_41 rfl (jfin_no TX0 RX0 16 rfl rfl) (congrArg Prod.fst (F.1 98 (0, 16) rfl rfl)) rfl ?_
                      refine x_aloadn (x := 98) rfl rfl ?_
                      refine x_getR (b := 101) 0 4 rfl f_0_18 rfl (congrArg Prod.fst (F.1 98 (0, 16) rfl rfl)) (F.2.1 12548 101 rfl rfl) ?_
                      refine x_aloadn (x := 98) rfl rfl ?_
                      refine y_getI (v := 0) 0 10 rfl f_0_37 rfl (congrArg Prod.fst (F.1 98 (0, 16) rfl rfl)) rfl ?_
                      refine x_aloadn (x := 98) rfl rfl ?_
                      refine y_getI (v := a3) 0 11 rfl f_0_41 rfl (congrArg Prod.fst (F.1 98 (0, 16) rfl rfl)) rfl ?_
                      refine x_aloadn (x := 98) rfl rfl ?_
                      refine x_getR (b := 32) 0 0 rfl f_0_57 rfl (congrArg Prod.fst (F.1 98 (0, 16) rfl rfl)) (F.2.1 12544 32 rfl rfl) ?_
                      refine y_getI (v := 1) 1 19 rfl f_0_81 rfl (congrArg Prod.fst (F.1 32 (1, 20) rfl rfl)) (F.2.2.1 4115 1 rfl rfl) ?_
                      refine x_inst (N := m_X11_isFresh) (As := [.ref 101, .int 0, .int a3, .int 1]) (st := []) (d' := 96) (mc := 0) (ms := 0) (host := "ParishChest") rfl t_X11_isFresh ⟨Or.inr q_0_84, s_X11_isFresh⟩ rfl (by decide) rfl rfl ⟨by decide, by decide⟩ (jC.of rfl k_X11_isFresh rfl ?_)
                      show jX m_X11_isFresh 96 0 0 0 [(0, .ref 101), (1, .int 0), (2, .int a3), (3, .int 1)] [] _ 0 0 _
                      refine x_aloadn (x := 101) rfl rfl ?_
                      refine y_alen (N := 3) (v := 3) rfl (F.1 101 (100, 3) rfl rfl) (by decide) (by decide) ?_
                      refine x_iconst (v := 3) rfl ki_3 ?_
                      refine x_icge (tgt := 8) rfl rfl (br_t (by decide) ?_)
                      refine x_aloadn (x := 101) rfl rfl ?_
                      refine x_iconst (v := 0) rfl ki_0 ?_
                      refine y_iald (v := 0) (N := 3) 0 rfl (F.1 101 (100, 3) rfl rfl) (jinb_of (by decide)) (by decide) (F.2.2.2.1 101 rfl rfl 0).1 ?_
                      refine x_iloadn (x := 0) rfl rfl ?_
                      refine x_icne (tgt := 33) rfl rfl (bn_f (by decide) ?_)
                      refine x_aloadn (x := 101) rfl rfl ?_
                      refine x_iconst (v := 1) rfl ki_1 ?_
                      refine y_iald (v := 0) (N := 3) 1 rfl (F.1 101 (100, 3) rfl rfl) (jinb_of (by decide)) (by decide) (F.2.2.2.1 101 rfl rfl 1).1 ?_
                      refine x_iloadn (x := a3) rfl rfl ?_
                      refine x_icne (tgt := 33) rfl rfl (ti_ne (show (0 : Int32).toInt = 0 by decide) (show (a3 : Int32).toInt = a3.toInt from rfl) (bn_t c12 ?_))
                      refine x_iconst (v := 0) rfl ki_0 ?_
                      refine x_istore (ls' := [(4, .int 0), (0, .ref 101), (1, .int 0), (2, .int a3), (3, .int 1)]) rfl rfl rfl ?_
                      refine x_aloadn (x := 101) rfl rfl ?_
                      refine x_iconst (v := 0) rfl ki_0 ?_
                      refine x_iloadn (x := 0) rfl rfl ?_
                      refine y_iast (N := 3) 0 rfl (F.1 101 (100, 3) rfl rfl) rfl (jinb_of (by decide)) (by decide) ?_
                      refine x_aloadn (x := 101) rfl rfl ?_
                      refine x_iconst (v := 1) rfl ki_1 ?_
                      refine x_iloadn (x := a3) rfl rfl ?_
                      refine y_iast (N := 3) 1 rfl (F.1 101 (100, 3) rfl rfl) rfl (jinb_of (by decide)) (by decide) ?_
                      refine x_aloadn (x := 101) rfl rfl ?_
                      refine x_iconst (v := 2) rfl ki_2 ?_
                      refine x_iloadn (x := 1) rfl rfl ?_
                      refine y_iast (N := 3) 2 rfl (F.1 101 (100, 3) rfl rfl) rfl (jinb_of (by decide)) (by decide) ?_
                      refine x_iload (x := 0) rfl rfl ?_
                      refine x_zret rfl rfl (by first | decide | exact jp_01 _) ?_
                      show jX m_X0_readLaws 97 0 0 32 [(0, .ref 98), (1, .int 0), (2, .int a3)] [.int 0] _ 0 0 _
                      refine x_ifeq (tgt := 36) rfl rfl (br_t (by decide) ?_)
                      refine x_bipush (v := 30) rfl kb_30 ?_
                      refine x_aloadn (x := 98) rfl rfl ?_
                      refine x_getR (b := 32) 0 0 rfl f_0_57 rfl (congrArg Prod.fst (F.1 98 (0, 16) rfl rfl)) (F.2.1 12544 32 rfl rfl) ?_
                      refine y_getI (v := 0) 1 18 rfl f_0_72 rfl (congrArg Prod.fst (F.1 32 (1, 20) rfl rfl)) (F.2.2.1 4114 0 rfl rfl) ?_
                      refine x_inst (N := m_J9_min_7cf53) (As := [.int 30, .int 0]) (st := []) (d' := 96) (mc := 0) (ms := 0) (host := "") rfl t_J9_min_7cf53 ⟨Or.inl q_0_88, s_J9_min_7cf53⟩ rfl (by decide) rfl rfl ⟨by decide, by decide⟩ (jC.of rfl k_J9_min_7cf53 rfl ?_)
                      show jX m_J9_min_7cf53 96 0 0 0 [(0, .int 30), (1, .int 0)] [] _ 0 0 _
                      refine x_iloadn (x := 30) rfl rfl ?_
                      refine x_iloadn (x := 0) rfl rfl ?_
                      refine x_icgt (tgt := 9) rfl rfl (br_t (by decide) ?_)
                      refine x_iloadn (x := 0) rfl rfl ?_
                      refine x_iret rfl rfl ?_
                      show jX m_X0_readLaws 97 0 0 48 [(0, .ref 98), (1, .int 0), (2, .int a3)] [.int 0] _ 0 0 _
                      refine x_istoren (ls' := [(3, .int 0), (0, .ref 98), (1, .int 0), (2, .int a3)]) rfl rfl rfl ?_
                      refine x_iconst (v := 0) rfl ki_0 ?_
                      refine x_istore (ls' := [(4, .int 0), (3, .int 0), (0, .ref 98), (1, .int 0), (2, .int a3)]) rfl rfl rfl ?_
                      refine x_iload (x := 0) rfl rfl ?_
                      refine x_iloadn (x := 0) rfl rfl ?_
                      refine x_icge (tgt := 80) rfl rfl (br_t (by decide) ?_)
                      refine x_iloadn (x := 0) rfl rfl ?_
                      refine x_iconst (v := 1) rfl ki_1 ?_
                      refine y_isub (v := (-1)) rfl (by decide) ?_
                      refine x_istore (ls' := [(4, .int (-1)), (3, .int 0), (0, .ref 98), (1, .int 0), (2, .int a3)]) rfl rfl rfl ?_
                      refine x_iload (x := (-1)) rfl rfl ?_
                      refine x_iflt (tgt := 167) rfl rfl (br_t (by decide) ?_)
                      refine x_vret rfl rfl ?_
                      show jX m_X0_turnTo 98 0 0 6 [(0, .ref 98), (1, .int 0), (2, .int a3)] [] _ 0 0 _
                      refine x_aloadn (x := 98) rfl rfl ?_
                      refine x_iloadn (x := 0) rfl rfl ?_
                      refine x_iloadn (x := a3) rfl rfl ?_
                      refine x_inv (N := m_X0_readHouses) (As := [.int 0, .int a3]) (b := 98) (st := []) (d' := 97) (mc := 0) (ms := 0) (host := "") 0 rfl t_X0_readHouses ⟨Or.inl q_0_69, i_X0_readHouses.1, i_X0_readHouses.2⟩ ⟨by decide, rfl⟩ (congrArg Prod.fst (F.1 98 (0, 16) rfl rfl)) rfl (by decide) rfl rfl ⟨by decide, by decide⟩ (jC.of rfl k_X0_readHouses rfl ?_)
                      show jX m_X0_readHouses 97 0 0 0 [(0, .ref 98), (1, .int 0), (2, .int a3)] [] _ 0 0 _
                      refine x_aloadn (x := 98) rfl rfl ?_
                      refine x_iloadn (x := 0) rfl rfl ?_
                      refine x_putI 0 10 rfl f_0_37 rfl (jfin_no TX0 RX0 16 rfl rfl) (congrArg Prod.fst (F.1 98 (0, 16) rfl rfl)) rfl ?_
                      refine x_aloadn (x := 98) rfl rfl ?_
                      refine x_iloadn (x := a3) rfl rfl ?_
                      refine x_putI 0 11 rfl f_0_41 rfl (jfin_no TX0 RX0 16 rfl rfl) (congrArg Prod.fst (F.1 98 (0, 16) rfl rfl)) rfl ?_
                      refine x_aloadn (x := 98) rfl rfl ?_
                      refine x_getR (b := 105) 0 8 rfl f_0_30 rfl (congrArg Prod.fst (F.1 98 (0, 16) rfl rfl)) (F.2.1 12552 105 rfl rfl) ?_
                      refine x_aloadn (x := 98) rfl rfl ?_
                      refine y_getI (v := 0) 0 10 rfl f_0_37 rfl (congrArg Prod.fst (F.1 98 (0, 16) rfl rfl)) rfl ?_
                      refine x_aloadn (x := 98) rfl rfl ?_
                      refine y_getI (v := a3) 0 11 rfl f_0_41 rfl (congrArg Prod.fst (F.1 98 (0, 16) rfl rfl)) rfl ?_
                      refine x_aloadn (x := 98) rfl rfl ?_
                      refine x_getR (b := 32) 0 0 rfl f_0_57 rfl (congrArg Prod.fst (F.1 98 (0, 16) rfl rfl)) (F.2.1 12544 32 rfl rfl) ?_
                      refine y_getI (v := 1) 1 19 rfl f_0_81 rfl (congrArg Prod.fst (F.1 32 (1, 20) rfl rfl)) (F.2.2.1 4115 1 rfl rfl) ?_
                      refine x_inst (N := m_X11_isFresh) (As := [.ref 105, .int 0, .int a3, .int 1]) (st := []) (d' := 96) (mc := 0) (ms := 0) (host := "ParishChest") rfl t_X11_isFresh ⟨Or.inr q_0_84, s_X11_isFresh⟩ rfl (by decide) rfl rfl ⟨by decide, by decide⟩ (jC.of rfl k_X11_isFresh rfl ?_)
                      show jX m_X11_isFresh 96 0 0 0 [(0, .ref 105), (1, .int 0), (2, .int a3), (3, .int 1)] [] _ 0 0 _
                      refine x_aloadn (x := 105) rfl rfl ?_
                      refine y_alen (N := 3) (v := 3) rfl (F.1 105 (100, 3) rfl rfl) (by decide) (by decide) ?_
                      refine x_iconst (v := 3) rfl ki_3 ?_
                      refine x_icge (tgt := 8) rfl rfl (br_t (by decide) ?_)
                      refine x_aloadn (x := 105) rfl rfl ?_
                      refine x_iconst (v := 0) rfl ki_0 ?_
                      refine y_iald (v := 0) (N := 3) 0 rfl (F.1 105 (100, 3) rfl rfl) (jinb_of (by decide)) (by decide) (F.2.2.2.1 105 rfl rfl 0).1 ?_
                      refine x_iloadn (x := 0) rfl rfl ?_
                      refine x_icne (tgt := 33) rfl rfl (bn_f (by decide) ?_)
                      refine x_aloadn (x := 105) rfl rfl ?_
                      refine x_iconst (v := 1) rfl ki_1 ?_
                      refine y_iald (v := 0) (N := 3) 1 rfl (F.1 105 (100, 3) rfl rfl) (jinb_of (by decide)) (by decide) (F.2.2.2.1 105 rfl rfl 1).1 ?_
                      refine x_iloadn (x := a3) rfl rfl ?_
                      refine x_icne (tgt := 33) rfl rfl (ti_ne (show (0 : Int32).toInt = 0 by decide) (show (a3 : Int32).toInt = a3.toInt from rfl) (bn_t c12 ?_))
                      refine x_iconst (v := 0) rfl ki_0 ?_
                      refine x_istore (ls' := [(4, .int 0), (0, .ref 105), (1, .int 0), (2, .int a3), (3, .int 1)]) rfl rfl rfl ?_
                      refine x_aloadn (x := 105) rfl rfl ?_
                      refine x_iconst (v := 0) rfl ki_0 ?_
                      refine x_iloadn (x := 0) rfl rfl ?_
                      refine y_iast (N := 3) 0 rfl (F.1 105 (100, 3) rfl rfl) rfl (jinb_of (by decide)) (by decide) ?_
                      refine x_aloadn (x := 105) rfl rfl ?_
                      refine x_iconst (v := 1) rfl ki_1 ?_
                      refine x_iloadn (x := a3) rfl rfl ?_
                      refine y_iast (N := 3) 1 rfl (F.1 105 (100, 3) rfl rfl) rfl (jinb_of (by decide)) (by decide) ?_
                      refine x_aloadn (x := 105) rfl rfl ?_
                      refine x_iconst (v := 2) rfl ki_2 ?_
                      refine x_iloadn (x := 1) rfl rfl ?_
                      refine y_iast (N := 3) 2 rfl (F.1 105 (100, 3) rfl rfl) rfl (jinb_of (by decide)) (by decide) ?_
                      refine x_iload (x := 0) rfl rfl ?_
                      refine x_zret rfl rfl (by first | decide | exact jp_01 _) ?_
                      show jX m_X0_readHouses 97 0 0 32 [(0, .ref 98), (1, .int 0), (2, .int a3)] [.int 0] _ 0 0 _
                      refine x_ifeq (tgt := 36) rfl rfl (br_t (by decide) ?_)
                      refine x_bipush (v := 40) rfl kb_40 ?_
                      refine x_aloadn (x := 98) rfl rfl ?_
                      refine x_getR (b := 32) 0 0 rfl f_0_57 rfl (congrArg Prod.fst (F.1 98 (0, 16) rfl rfl)) (F.2.1 12544 32 rfl rfl) ?_
                      refine x_getR (b := 49) 1 8 rfl f_0_120 rfl (congrArg Prod.fst (F.1 32 (1, 20) rfl rfl)) (F.2.1 4104 49 rfl rfl) ?_
                      refine y_getI (v := 0) 8 3 rfl f_0_124 rfl (congrArg Prod.fst (F.1 49 (8, 4) rfl rfl)) (F.2.2.1 6275 0 rfl rfl) ?_
                      refine x_inst (N := m_J9_min_7cf53) (As := [.int 40, .int 0]) (st := []) (d' := 96) (mc := 0) (ms := 0) (host := "") rfl t_J9_min_7cf53 ⟨Or.inl q_0_88, s_J9_min_7cf53⟩ rfl (by decide) rfl rfl ⟨by decide, by decide⟩ (jC.of rfl k_J9_min_7cf53 rfl ?_)
                      show jX m_J9_min_7cf53 96 0 0 0 [(0, .int 40), (1, .int 0)] [] _ 0 0 _
                      refine x_iloadn (x := 40) rfl rfl ?_
                      refine x_iloadn (x := 0) rfl rfl ?_
                      refine x_icgt (tgt := 9) rfl rfl (br_t (by decide) ?_)
                      refine x_iloadn (x := 0) rfl rfl ?_
                      refine x_iret rfl rfl ?_
                      show jX m_X0_readHouses 97 0 0 51 [(0, .ref 98), (1, .int 0), (2, .int a3)] [.int 0] _ 0 0 _
                      refine x_istoren (ls' := [(3, .int 0), (0, .ref 98), (1, .int 0), (2, .int a3)]) rfl rfl rfl ?_
                      refine x_aloadn (x := 98) rfl rfl ?_
                      refine x_aloadn (x := 98) rfl rfl ?_
                      refine x_getR (b := 32) 0 0 rfl f_0_57 rfl (congrArg Prod.fst (F.1 98 (0, 16) rfl rfl)) (F.2.1 12544 32 rfl rfl) ?_
                      refine x_getR (b := 47) 1 7 rfl f_0_129 rfl (congrArg Prod.fst (F.1 32 (1, 20) rfl rfl)) (F.2.1 4103 47 rfl rfl) ?_
                      refine x_iconst (v := 3) rfl ki_3 ?_
                      refine x_aloadn (x := 98) rfl rfl ?_
                      refine x_getR (b := 102) 0 5 rfl f_0_21 rfl (congrArg Prod.fst (F.1 98 (0, 16) rfl rfl)) (F.2.1 12549 102 rfl rfl) ?_
                      refine x_iconst (v := 0) rfl ki_0 ?_
                      refine x_inv (N := m_X0_readLatest) (As := [.ref 47, .int 3, .ref 102, .int 0]) (b := 98) (st := []) (d' := 96) (mc := 0) (ms := 0) (host := "") 0 rfl t_X0_readLatest ⟨Or.inl q_0_132, i_X0_readLatest.1, i_X0_readLatest.2⟩ ⟨by decide, rfl⟩ (congrArg Prod.fst (F.1 98 (0, 16) rfl rfl)) rfl (by decide) rfl rfl ⟨by decide, by decide⟩ (jC.of rfl k_X0_readLatest rfl ?_)
                      show jX m_X0_readLatest 96 0 0 0 [(0, .ref 98), (1, .ref 47), (2, .int 3), (3, .ref 102), (4, .int 0)] [] _ 0 0 _
                      refine x_iconst (v := 0) rfl ki_0 ?_
                      refine x_istore (ls' := [(5, .int 0), (0, .ref 98), (1, .ref 47), (2, .int 3), (3, .ref 102), (4, .int 0)]) rfl rfl rfl ?_
                      refine x_iload (x := 0) rfl rfl ?_
                      refine x_bipush (v := 40) rfl kb_40 ?_
                      refine x_icge (tgt := 52) rfl rfl (br_f (by decide) ?_)
                      refine x_iload (x := 0) rfl rfl ?_
                      refine x_aloadn (x := 98) rfl rfl ?_
                      refine x_getR (b := 32) 0 0 rfl f_0_57 rfl (congrArg Prod.fst (F.1 98 (0, 16) rfl rfl)) (F.2.1 12544 32 rfl rfl) ?_
                      refine x_getR (b := 49) 1 8 rfl f_0_120 rfl (congrArg Prod.fst (F.1 32 (1, 20) rfl rfl)) (F.2.1 4104 49 rfl rfl) ?_
                      refine y_getI (v := 0) 8 3 rfl f_0_124 rfl (congrArg Prod.fst (F.1 49 (8, 4) rfl rfl)) (F.2.2.1 6275 0 rfl rfl) ?_
                      refine x_icge (tgt := 52) rfl rfl (br_t (by decide) ?_)
                      refine x_iconst (v := 0) rfl ki_0 ?_
                      refine x_istore (ls' := [(5, .int 0), (0, .ref 98), (1, .ref 47), (2, .int 3), (3, .ref 102), (4, .int 0)]) rfl rfl rfl ?_
                      refine x_iload (x := 0) rfl rfl ?_
                      refine x_aloadn (x := 47) rfl rfl ?_
                      refine y_getI (v := 0) 8 3 rfl f_0_124 rfl (congrArg Prod.fst (F.1 47 (8, 4) rfl rfl)) (F.2.2.1 6019 0 rfl rfl) ?_
                      refine x_icge (tgt := 161) rfl rfl (br_t (by decide) ?_)
                      refine x_vret rfl rfl ?_
                      show jX m_X0_readHouses 97 0 0 69 [(3, .int 0), (0, .ref 98), (1, .int 0), (2, .int a3)] [] _ 0 0 _
                      refine x_aloadn (x := 98) rfl rfl ?_
                      refine x_aloadn (x := 98) rfl rfl ?_
                      refine x_getR (b := 32) 0 0 rfl f_0_57 rfl (congrArg Prod.fst (F.1 98 (0, 16) rfl rfl)) (F.2.1 12544 32 rfl rfl) ?_
                      refine x_getR (b := 51) 1 9 rfl f_0_136 rfl (congrArg Prod.fst (F.1 32 (1, 20) rfl rfl)) (F.2.1 4105 51 rfl rfl) ?_
                      refine x_iconst (v := 3) rfl ki_3 ?_
                      refine x_aloadn (x := 98) rfl rfl ?_
                      refine x_getR (b := 103) 0 6 rfl f_0_24 rfl (congrArg Prod.fst (F.1 98 (0, 16) rfl rfl)) (F.2.1 12550 103 rfl rfl) ?_
                      refine x_iconst (v := (-1)) rfl ki_m1 ?_
                      refine x_inv (N := m_X0_readLatest) (As := [.ref 51, .int 3, .ref 103, .int (-1)]) (b := 98) (st := []) (d' := 96) (mc := 0) (ms := 0) (host := "") 0 rfl t_X0_readLatest ⟨Or.inl q_0_132, i_X0_readLatest.1, i_X0_readLatest.2⟩ ⟨by decide, rfl⟩ (congrArg Prod.fst (F.1 98 (0, 16) rfl rfl)) rfl (by decide) rfl rfl ⟨by decide, by decide⟩ (jC.of rfl k_X0_readLatest rfl ?_)
                      show jX m_X0_readLatest 96 0 0 0 [(0, .ref 98), (1, .ref 51), (2, .int 3), (3, .ref 103), (4, .int (-1))] [] _ 0 0 _
                      refine x_iconst (v := 0) rfl ki_0 ?_
                      refine x_istore (ls' := [(5, .int 0), (0, .ref 98), (1, .ref 51), (2, .int 3), (3, .ref 103), (4, .int (-1))]) rfl rfl rfl ?_
                      refine x_iload (x := 0) rfl rfl ?_
                      refine x_bipush (v := 40) rfl kb_40 ?_
                      refine x_icge (tgt := 52) rfl rfl (br_f (by decide) ?_)
                      refine x_iload (x := 0) rfl rfl ?_
                      refine x_aloadn (x := 98) rfl rfl ?_
                      refine x_getR (b := 32) 0 0 rfl f_0_57 rfl (congrArg Prod.fst (F.1 98 (0, 16) rfl rfl)) (F.2.1 12544 32 rfl rfl) ?_
                      refine x_getR (b := 49) 1 8 rfl f_0_120 rfl (congrArg Prod.fst (F.1 32 (1, 20) rfl rfl)) (F.2.1 4104 49 rfl rfl) ?_
                      refine y_getI (v := 0) 8 3 rfl f_0_124 rfl (congrArg Prod.fst (F.1 49 (8, 4) rfl rfl)) (F.2.2.1 6275 0 rfl rfl) ?_
                      refine x_icge (tgt := 52) rfl rfl (br_t (by decide) ?_)
                      refine x_iconst (v := 0) rfl ki_0 ?_
                      refine x_istore (ls' := [(5, .int 0), (0, .ref 98), (1, .ref 51), (2, .int 3), (3, .ref 103), (4, .int (-1))]) rfl rfl rfl ?_
                      refine x_iload (x := 0) rfl rfl ?_
                      refine x_aloadn (x := 51) rfl rfl ?_
                      refine y_getI (v := 0) 8 3 rfl f_0_124 rfl (congrArg Prod.fst (F.1 51 (8, 4) rfl rfl)) (F.2.2.1 6531 0 rfl rfl) ?_
                      refine x_icge (tgt := 161) rfl rfl (br_t (by decide) ?_)
                      refine x_vret rfl rfl ?_
                      show jX m_X0_readHouses 97 0 0 86 [(3, .int 0), (0, .ref 98), (1, .int 0), (2, .int a3)] [] _ 0 0 _
                      refine x_iconst (v := 0) rfl ki_0 ?_
                      refine x_istore (ls' := [(4, .int 0), (3, .int 0), (0, .ref 98), (1, .int 0), (2, .int a3)]) rfl rfl rfl ?_
                      refine x_iload (x := 0) rfl rfl ?_
                      refine x_iloadn (x := 0) rfl rfl ?_
                      refine x_icge (tgt := 172) rfl rfl (br_t (by decide) ?_)
                      refine x_vret rfl rfl ?_
                      show jX m_X0_turnTo 98 0 0 12 [(0, .ref 98), (1, .int 0), (2, .int a3)] [] _ 0 0 _
                      refine x_vret rfl rfl ?_
                      show jX m_X4_partOut 99 0 0 71 [(4, .int 0), (3, .int 0), (0, .ref 107), (1, .int a1), (2, .int a3)] [] _ 0 0 _
                      refine x_lconst (v := 0) rfl kl_0 ?_
                      refine x_lstore (ls' := [(5, .long 0), (4, .int 0), (3, .int 0), (0, .ref 107), (1, .int a1), (2, .int a3)]) rfl rfl rfl ?_
                      refine x_iconst (v := 0) rfl ki_0 ?_
                      refine x_istore (ls' := [(7, .int 0), (5, .long 0), (4, .int 0), (3, .int 0), (0, .ref 107), (1, .int a1), (2, .int a3)]) rfl rfl rfl ?_
                      refine x_iload (x := 0) rfl rfl ?_
                      refine x_aloadn (x := 107) rfl rfl ?_
                      refine x_inv (N := m_X4_houses) (As := []) (b := 107) (st := [.int 0]) (d' := 98) (mc := 0) (ms := 0) (host := "") 4 rfl t_X4_houses ⟨Or.inl q_4_107, i_X4_houses.1, i_X4_houses.2⟩ ⟨by decide, rfl⟩ (congrArg Prod.fst (F.1 107 (4, 18) rfl rfl)) rfl (by decide) rfl rfl ⟨by decide, by decide⟩ (jC.of rfl k_X4_houses rfl ?_)
                      show jX m_X4_houses 98 0 0 0 [(0, .ref 107)] [] _ 0 0 _
                      refine x_bipush (v := 40) rfl kb_40 ?_
                      refine x_aloadn (x := 107) rfl rfl ?_
                      refine x_getR (b := 32) 4 0 rfl f_4_59 rfl (congrArg Prod.fst (F.1 107 (4, 18) rfl rfl)) (F.2.1 13696 32 rfl rfl) ?_
                      refine x_getR (b := 49) 1 8 rfl f_4_71 rfl (congrArg Prod.fst (F.1 32 (1, 20) rfl rfl)) (F.2.1 4104 49 rfl rfl) ?_
                      refine y_getI (v := 0) 8 3 rfl f_4_77 rfl (congrArg Prod.fst (F.1 49 (8, 4) rfl rfl)) (F.2.2.1 6275 0 rfl rfl) ?_
                      refine x_inst (N := m_J9_min_7cf53) (As := [.int 40, .int 0]) (st := []) (d' := 97) (mc := 0) (ms := 0) (host := "") rfl t_J9_min_7cf53 ⟨Or.inl q_4_82, s_J9_min_7cf53⟩ rfl (by decide) rfl rfl ⟨by decide, by decide⟩ (jC.of rfl k_J9_min_7cf53 rfl ?_)
                      show jX m_J9_min_7cf53 97 0 0 0 [(0, .int 40), (1, .int 0)] [] _ 0 0 _
                      refine x_iloadn (x := 40) rfl rfl ?_
                      refine x_iloadn (x := 0) rfl rfl ?_
                      refine x_icgt (tgt := 9) rfl rfl (br_t (by decide) ?_)
                      refine x_iloadn (x := 0) rfl rfl ?_
                      refine x_iret rfl rfl ?_
                      show jX m_X4_houses 98 0 0 15 [(0, .ref 107)] [.int 0] _ 0 0 _
                      refine x_iret rfl rfl ?_
                      show jX m_X4_partOut 99 0 0 83 [(7, .int 0), (5, .long 0), (4, .int 0), (3, .int 0), (0, .ref 107), (1, .int a1), (2, .int a3)] [.int 0, .int 0] _ 0 0 _
                      refine x_icge (tgt := 187) rfl rfl (br_t (by decide) ?_)
                      refine x_aloadn (x := 107) rfl rfl ?_
                      refine x_iload (x := 0) rfl rfl ?_
                      refine x_lload (x := 0) rfl rfl ?_
                      refine x_inv (N := m_X4_share) (As := [.int 0, .long 0]) (b := 107) (st := []) (d' := 98) (mc := 0) (ms := 0) (host := "") 4 rfl t_X4_share ⟨Or.inl q_4_123, i_X4_share.1, i_X4_share.2⟩ ⟨by decide, rfl⟩ (congrArg Prod.fst (F.1 107 (4, 18) rfl rfl)) rfl (by decide) rfl rfl ⟨by decide, by decide⟩ (jC.of rfl k_X4_share rfl ?_)
                      show jX m_X4_share 98 0 0 0 [(0, .ref 107), (1, .int 0), (2, .long 0)] [] _ 0 0 _
                      refine x_lloadn (x := 0) rfl rfl ?_
                      refine x_lconst (v := 0) rfl kl_0 ?_
                      refine y_lcmp (v := 0) rfl (by decide) ?_
                      refine x_ifne (tgt := 10) rfl rfl (bn_f (by decide) ?_)
                      refine x_lconst (v := 0) rfl kl_0 ?_
                      refine x_goto (tgt := 12) rfl rfl ?_
                      refine x_lstore (ls' := [(4, .long 0), (0, .ref 107), (1, .int 0), (2, .long 0)]) rfl rfl rfl ?_
                      refine x_iconst (v := 0) rfl ki_0 ?_
                      refine x_istore (ls' := [(6, .int 0), (4, .long 0), (0, .ref 107), (1, .int 0), (2, .long 0)]) rfl rfl rfl ?_
                      refine x_iload (x := 0) rfl rfl ?_
                      refine x_aloadn (x := 107) rfl rfl ?_
                      refine x_inv (N := m_X4_houses) (As := []) (b := 107) (st := [.int 0]) (d' := 97) (mc := 0) (ms := 0) (host := "") 4 rfl t_X4_houses ⟨Or.inl q_4_107, i_X4_houses.1, i_X4_houses.2⟩ ⟨by decide, rfl⟩ (congrArg Prod.fst (F.1 107 (4, 18) rfl rfl)) rfl (by decide) rfl rfl ⟨by decide, by decide⟩ (jC.of rfl k_X4_houses rfl ?_)
                      show jX m_X4_houses 97 0 0 0 [(0, .ref 107)] [] _ 0 0 _
                      refine x_bipush (v := 40) rfl kb_40 ?_
                      refine x_aloadn (x := 107) rfl rfl ?_
                      refine x_getR (b := 32) 4 0 rfl f_4_59 rfl (congrArg Prod.fst (F.1 107 (4, 18) rfl rfl)) (F.2.1 13696 32 rfl rfl) ?_
                      refine x_getR (b := 49) 1 8 rfl f_4_71 rfl (congrArg Prod.fst (F.1 32 (1, 20) rfl rfl)) (F.2.1 4104 49 rfl rfl) ?_
                      refine y_getI (v := 0) 8 3 rfl f_4_77 rfl (congrArg Prod.fst (F.1 49 (8, 4) rfl rfl)) (F.2.2.1 6275 0 rfl rfl) ?_
                      refine x_inst (N := m_J9_min_7cf53) (As := [.int 40, .int 0]) (st := []) (d' := 96) (mc := 0) (ms := 0) (host := "") rfl t_J9_min_7cf53 ⟨Or.inl q_4_82, s_J9_min_7cf53⟩ rfl (by decide) rfl rfl ⟨by decide, by decide⟩ (jC.of rfl k_J9_min_7cf53 rfl ?_)
                      show jX m_J9_min_7cf53 96 0 0 0 [(0, .int 40), (1, .int 0)] [] _ 0 0 _
                      refine x_iloadn (x := 40) rfl rfl ?_
                      refine x_iloadn (x := 0) rfl rfl ?_
                      refine x_icgt (tgt := 9) rfl rfl (br_t (by decide) ?_)
                      refine x_iloadn (x := 0) rfl rfl ?_
                      refine x_iret rfl rfl ?_
                      show jX m_X4_houses 97 0 0 15 [(0, .ref 107)] [.int 0] _ 0 0 _
                      refine x_iret rfl rfl ?_
                      show jX m_X4_share 98 0 0 23 [(6, .int 0), (4, .long 0), (0, .ref 107), (1, .int 0), (2, .long 0)] [.int 0, .int 0] _ 0 0 _
                      refine x_icge (tgt := 113) rfl rfl (br_t (by decide) ?_)
                      refine x_iconst (v := 0) rfl ki_0 ?_
                      refine x_istore (ls' := [(6, .int 0), (4, .long 0), (0, .ref 107), (1, .int 0), (2, .long 0)]) rfl rfl rfl ?_
                      refine x_iload (x := 0) rfl rfl ?_
                      refine x_bipush (v := 40) rfl kb_40 ?_
                      refine x_icge (tgt := 175) rfl rfl (br_f (by decide) ?_)
                      refine x_lload (x := 0) rfl rfl ?_
                      refine x_lconst (v := 0) rfl kl_0 ?_
                      refine y_lcmp (v := 0) rfl (by decide) ?_
                      refine x_ifle (tgt := 175) rfl rfl (br_t (by decide) ?_)
                      refine x_vret rfl rfl ?_
                      show jX m_X4_partOut 99 0 0 195 [(7, .int 0), (5, .long 0), (4, .int 0), (3, .int 0), (0, .ref 107), (1, .int a1), (2, .int a3)] [] _ 0 0 _
                      refine x_iconst (v := 0) rfl ki_0 ?_
                      refine x_istore (ls' := [(7, .int 0), (5, .long 0), (4, .int 0), (3, .int 0), (0, .ref 107), (1, .int a1), (2, .int a3)]) rfl rfl rfl ?_
                      refine x_iload (x := 0) rfl rfl ?_
                      refine x_aloadn (x := 107) rfl rfl ?_
                      refine x_inv (N := m_X4_houses) (As := []) (b := 107) (st := [.int 0]) (d' := 98) (mc := 0) (ms := 0) (host := "") 4 rfl t_X4_houses ⟨Or.inl q_4_107, i_X4_houses.1, i_X4_houses.2⟩ ⟨by decide, rfl⟩ (congrArg Prod.fst (F.1 107 (4, 18) rfl rfl)) rfl (by decide) rfl rfl ⟨by decide, by decide⟩ (jC.of rfl k_X4_houses rfl ?_)
                      show jX m_X4_houses 98 0 0 0 [(0, .ref 107)] [] _ 0 0 _
                      refine x_bipush (v := 40) rfl kb_40 ?_
                      refine x_aloadn (x := 107) rfl rfl ?_
                      refine x_getR (b := 32) 4 0 rfl f_4_59 rfl (congrArg Prod.fst (F.1 107 (4, 18) rfl rfl)) (F.2.1 13696 32 rfl rfl) ?_
                      refine x_getR (b := 49) 1 8 rfl f_4_71 rfl (congrArg Prod.fst (F.1 32 (1, 20) rfl rfl)) (F.2.1 4104 49 rfl rfl) ?_
                      refine y_getI (v := 0) 8 3 rfl f_4_77 rfl (congrArg Prod.fst (F.1 49 (8, 4) rfl rfl)) (F.2.2.1 6275 0 rfl rfl) ?_
                      refine x_inst (N := m_J9_min_7cf53) (As := [.int 40, .int 0]) (st := []) (d' := 97) (mc := 0) (ms := 0) (host := "") rfl t_J9_min_7cf53 ⟨Or.inl q_4_82, s_J9_min_7cf53⟩ rfl (by decide) rfl rfl ⟨by decide, by decide⟩ (jC.of rfl k_J9_min_7cf53 rfl ?_)
                      show jX m_J9_min_7cf53 97 0 0 0 [(0, .int 40), (1, .int 0)] [] _ 0 0 _
                      refine x_iloadn (x := 40) rfl rfl ?_
                      refine x_iloadn (x := 0) rfl rfl ?_
                      refine x_icgt (tgt := 9) rfl rfl (br_t (by decide) ?_)
                      refine x_iloadn (x := 0) rfl rfl ?_
                      refine x_iret rfl rfl ?_
                      show jX m_X4_houses 98 0 0 15 [(0, .ref 107)] [.int 0] _ 0 0 _
                      refine x_iret rfl rfl ?_
                      show jX m_X4_partOut 99 0 0 204 [(7, .int 0), (5, .long 0), (4, .int 0), (3, .int 0), (0, .ref 107), (1, .int a1), (2, .int a3)] [.int 0, .int 0] _ 0 0 _
                      refine x_icge (tgt := 275) rfl rfl (br_t (by decide) ?_)
                      refine x_vret rfl rfl ?_
                      show jX m_X11_owe 100 0 0 54 [(0, .ref 31), (1, .int a1), (2, .int a2), (3, .int a3)] [] _ 0 0 _
                      refine x_iloadn (x := a2) rfl rfl ?_
                      refine x_iconst (v := (-1)) rfl ki_m1 ?_
                      refine x_icne (tgt := 69) rfl rfl (ti_ne (show (a2 : Int32).toInt = a2.toInt from rfl) (show ((-1) : Int32).toInt = (-1) by decide) (bn_t c5 ?_))
                      refine x_aloadn (x := 31) rfl rfl ?_
                      refine x_getR (b := 107) 11 8 rfl f_11_75 rfl (congrArg Prod.fst (F.1 31 (11, 13) rfl rfl)) (F.2.1 3976 107 rfl rfl) ?_
                      refine x_getR (b := 108) 4 3 rfl f_11_449 rfl (congrArg Prod.fst (F.1 107 (4, 18) rfl rfl)) (F.2.1 13699 108 rfl rfl) ?_
                      refine x_iloadn (x := a2) rfl rfl ?_
                      refine y_iald (v := 0) (N := 40) a2.toNatClampNeg rfl (F.1 108 (100, 40) rfl rfl) (vpi (by omega)) rfl (F.2.2.2.1 108 rfl rfl _).1 ?_
                      refine x_iret rfl rfl ?_
                      exact jqe (show sp_owe a1 a2 a3 = 0 by unfold sp_owe; (repeat' split) <;> first | rfl | (exfalso; omega)) (hQ _ (by repeat (first | exact FM | refine jFb_si rfl ?_ | refine jFb_sl rfl ?_ | refine jFb_ci rfl ?_ | refine jFb_cl rfl ?_ | refine jFb_sr rfl ?_)) (by repeat (first | exact O | refine jOl_si rfl ?_ | refine jOl_sl rfl ?_ | refine jOl_ci rfl ?_ | refine jOl_cl rfl ?_ | refine jOl_sr rfl ?_)))
                    ·
                      refine x_aloadn (x := 111) rfl rfl ?_
                      refine x_iconst (v := 1) rfl ki_1 ?_
                      refine y_iald (v := 0) (N := 3) 1 rfl (F.1 111 (100, 3) rfl rfl) (jinb_of (by decide)) (by decide) (F.2.2.2.1 111 rfl rfl 1).1 ?_
                      refine x_iloadn (x := a3) rfl rfl ?_
                      refine x_icne (tgt := 33) rfl rfl (ti_ne (show (0 : Int32).toInt = 0 by decide) (show (a3 : Int32).toInt = a3.toInt from rfl) (bn_t c12 ?_))
                      refine x_iconst (v := 0) rfl ki_0 ?_
                      refine x_istore (ls' := [(4, .int 0), (0, .ref 111), (1, .int a1), (2, .int a3), (3, .int 1)]) rfl rfl rfl ?_
                      refine x_aloadn (x := 111) rfl rfl ?_
                      refine x_iconst (v := 0) rfl ki_0 ?_
                      refine x_iloadn (x := a1) rfl rfl ?_
                      refine y_iast (N := 3) 0 rfl (F.1 111 (100, 3) rfl rfl) rfl (jinb_of (by decide)) (by decide) ?_
                      refine x_aloadn (x := 111) rfl rfl ?_
                      refine x_iconst (v := 1) rfl ki_1 ?_
                      refine x_iloadn (x := a3) rfl rfl ?_
                      refine y_iast (N := 3) 1 rfl (F.1 111 (100, 3) rfl rfl) rfl (jinb_of (by decide)) (by decide) ?_
                      refine x_aloadn (x := 111) rfl rfl ?_
                      refine x_iconst (v := 2) rfl ki_2 ?_
                      refine x_iloadn (x := 1) rfl rfl ?_
                      refine y_iast (N := 3) 2 rfl (F.1 111 (100, 3) rfl rfl) rfl (jinb_of (by decide)) (by decide) ?_
                      refine x_iload (x := 0) rfl rfl ?_
                      refine x_zret rfl rfl (by first | decide | exact jp_01 _) ?_
                      show jX m_X4_partOut 99 0 0 16 [(0, .ref 107), (1, .int a1), (2, .int a3)] [.int 0] _ 0 0 _
                      refine x_ifeq (tgt := 20) rfl rfl (br_t (by decide) ?_)
                      refine x_aloadn (x := 107) rfl rfl ?_
                      refine x_getR (b := 32) 4 0 rfl f_4_59 rfl (congrArg Prod.fst (F.1 107 (4, 18) rfl rfl)) (F.2.1 13696 32 rfl rfl) ?_
                      refine x_getR (b := 53) 1 10 rfl f_4_95 rfl (congrArg Prod.fst (F.1 32 (1, 20) rfl rfl)) (F.2.1 4106 53 rfl rfl) ?_
                      refine x_iloadn (x := a1) rfl rfl ?_
                      refine x_iconst (v := 2) rfl ki_2 ?_
                      refine x_inv (N := m_X8_at) (As := [.int a1, .int 2]) (b := 53) (st := []) (d' := 98) (mc := 0) (ms := 0) (host := "") 8 rfl t_X8_at ⟨Or.inl q_4_98, i_X8_at.1, i_X8_at.2⟩ ⟨by decide, rfl⟩ (congrArg Prod.fst (F.1 53 (8, 4) rfl rfl)) rfl (by decide) rfl rfl ⟨by decide, by decide⟩ (jC.of rfl k_X8_at rfl ?_)
                      show jX m_X8_at 98 0 0 0 [(0, .ref 53), (1, .int a1), (2, .int 2)] [] _ 0 0 _
                      refine x_iloadn (x := a1) rfl rfl ?_
                      refine x_iflt (tgt := 24) rfl rfl (ti_lt (show (a1 : Int32).toInt = a1.toInt from rfl) (show (0 : Int32).toInt = 0 by decide) (br_f c2 ?_))
                      refine x_iloadn (x := a1) rfl rfl ?_
                      refine x_aloadn (x := 53) rfl rfl ?_
                      refine y_getI (v := 0) 8 3 rfl f_8_7 rfl (congrArg Prod.fst (F.1 53 (8, 4) rfl rfl)) (F.2.2.1 6787 0 rfl rfl) ?_
                      refine x_icge (tgt := 24) rfl rfl (ti_ge (show (a1 : Int32).toInt = a1.toInt from rfl) (show (0 : Int32).toInt = 0 by decide) (br_f c3 ?_))
                      refine x_iloadn (x := 2) rfl rfl ?_
                      refine x_iflt (tgt := 24) rfl rfl (br_f (by decide) ?_)
                      refine x_iloadn (x := 2) rfl rfl ?_
                      refine x_aloadn (x := 53) rfl rfl ?_
                      refine y_getI (v := 4) 8 0 rfl f_8_19 rfl (congrArg Prod.fst (F.1 53 (8, 4) rfl rfl)) (F.2.2.1 6784 4 rfl rfl) ?_
                      refine x_iclt (tgt := 26) rfl rfl (br_t (by decide) ?_)
                      refine x_aloadn (x := 53) rfl rfl ?_
                      refine x_getR (b := 54) 8 2 rfl f_8_25 rfl (congrArg Prod.fst (F.1 53 (8, 4) rfl rfl)) (F.2.1 6786 54 rfl rfl) ?_
                      refine x_iloadn (x := a1) rfl rfl ?_
                      refine x_aloadn (x := 53) rfl rfl ?_
                      refine y_getI (v := 4) 8 0 rfl f_8_19 rfl (congrArg Prod.fst (F.1 53 (8, 4) rfl rfl)) (F.2.2.1 6784 4 rfl rfl) ?_
                      refine x_imul rfl ?_
                      refine x_iloadn (x := 2) rfl rfl ?_
                      refine x_iadd rfl ?_
                      refine y_iald (v := 0) (N := 160) ((a1 * 4) + 2).toNatClampNeg rfl (F.1 54 (100, 160) rfl rfl) (vpi (by omega)) rfl (F.2.2.2.1 54 rfl rfl _).1 ?_
                      refine x_iret rfl rfl ?_
                      show jX m_X4_partOut 99 0 0 32 [(0, .ref 107), (1, .int a1), (2, .int a3)] [.int 0] _ 0 0 _
                      refine x_istoren (ls' := [(3, .int 0), (0, .ref 107), (1, .int a1), (2, .int a3)]) rfl rfl rfl ?_
                      refine x_aloadn (x := 107) rfl rfl ?_
                      refine x_getR (b := 32) 4 0 rfl f_4_59 rfl (congrArg Prod.fst (F.1 107 (4, 18) rfl rfl)) (F.2.1 13696 32 rfl rfl) ?_
                      refine x_getR (b := 53) 1 10 rfl f_4_95 rfl (congrArg Prod.fst (F.1 32 (1, 20) rfl rfl)) (F.2.1 4106 53 rfl rfl) ?_
                      refine x_iloadn (x := a1) rfl rfl ?_
                      refine x_iconst (v := 3) rfl ki_3 ?_
                      refine x_inv (N := m_X8_at) (As := [.int a1, .int 3]) (b := 53) (st := []) (d' := 98) (mc := 0) (ms := 0) (host := "") 8 rfl t_X8_at ⟨Or.inl q_4_98, i_X8_at.1, i_X8_at.2⟩ ⟨by decide, rfl⟩ (congrArg Prod.fst (F.1 53 (8, 4) rfl rfl)) rfl (by decide) rfl rfl ⟨by decide, by decide⟩ (jC.of rfl k_X8_at rfl ?_)
                      show jX m_X8_at 98 0 0 0 [(0, .ref 53), (1, .int a1), (2, .int 3)] [] _ 0 0 _
                      refine x_iloadn (x := a1) rfl rfl ?_
                      refine x_iflt (tgt := 24) rfl rfl (ti_lt (show (a1 : Int32).toInt = a1.toInt from rfl) (show (0 : Int32).toInt = 0 by decide) (br_f c2 ?_))
                      refine x_iloadn (x := a1) rfl rfl ?_
                      refine x_aloadn (x := 53) rfl rfl ?_
                      refine y_getI (v := 0) 8 3 rfl f_8_7 rfl (congrArg Prod.fst (F.1 53 (8, 4) rfl rfl)) (F.2.2.1 6787 0 rfl rfl) ?_
                      refine x_icge (tgt := 24) rfl rfl (ti_ge (show (a1 : Int32).toInt = a1.toInt from rfl) (show (0 : Int32).toInt = 0 by decide) (br_f c3 ?_))
                      refine x_iloadn (x := 3) rfl rfl ?_
                      refine x_iflt (tgt := 24) rfl rfl (br_f (by decide) ?_)
                      refine x_iloadn (x := 3) rfl rfl ?_
                      refine x_aloadn (x := 53) rfl rfl ?_
                      refine y_getI (v := 4) 8 0 rfl f_8_19 rfl (congrArg Prod.fst (F.1 53 (8, 4) rfl rfl)) (F.2.2.1 6784 4 rfl rfl) ?_
                      refine x_iclt (tgt := 26) rfl rfl (br_t (by decide) ?_)
                      refine x_aloadn (x := 53) rfl rfl ?_
                      refine x_getR (b := 54) 8 2 rfl f_8_25 rfl (congrArg Prod.fst (F.1 53 (8, 4) rfl rfl)) (F.2.1 6786 54 rfl rfl) ?_
                      refine x_iloadn (x := a1) rfl rfl ?_
                      refine x_aloadn (x := 53) rfl rfl ?_
                      refine y_getI (v := 4) 8 0 rfl f_8_19 rfl (congrArg Prod.fst (F.1 53 (8, 4) rfl rfl)) (F.2.2.1 6784 4 rfl rfl) ?_
                      refine x_imul rfl ?_
                      refine x_iloadn (x := 3) rfl rfl ?_
                      refine x_iadd rfl ?_
                      refine y_iald (v := 0) (N := 160) ((a1 * 4) + 3).toNatClampNeg rfl (F.1 54 (100, 160) rfl rfl) (vpi (by omega)) rfl (F.2.2.2.1 54 rfl rfl _).1 ?_
                      refine x_iret rfl rfl ?_
                      show jX m_X4_partOut 99 0 0 45 [(3, .int 0), (0, .ref 107), (1, .int a1), (2, .int a3)] [.int 0] _ 0 0 _
                      refine x_istore (ls' := [(4, .int 0), (3, .int 0), (0, .ref 107), (1, .int a1), (2, .int a3)]) rfl rfl rfl ?_
                      refine x_aloadn (x := 107) rfl rfl ?_
                      refine x_getR (b := 98) 4 2 rfl f_4_67 rfl (congrArg Prod.fst (F.1 107 (4, 18) rfl rfl)) (F.2.1 13698 98 rfl rfl) ?_
                      refine x_aloadn (x := 107) rfl rfl ?_
                      refine x_getR (b := 32) 4 0 rfl f_4_59 rfl (congrArg Prod.fst (F.1 107 (4, 18) rfl rfl)) (F.2.1 13696 32 rfl rfl) ?_
                      refine x_getR (b := 53) 1 10 rfl f_4_95 rfl (congrArg Prod.fst (F.1 32 (1, 20) rfl rfl)) (F.2.1 4106 53 rfl rfl) ?_
                      refine x_iloadn (x := a1) rfl rfl ?_
                      refine x_iconst (v := 1) rfl ki_1 ?_
                      refine x_inv (N := m_X8_at) (As := [.int a1, .int 1]) (b := 53) (st := [.ref 98]) (d' := 98) (mc := 0) (ms := 0) (host := "") 8 rfl t_X8_at ⟨Or.inl q_4_98, i_X8_at.1, i_X8_at.2⟩ ⟨by decide, rfl⟩ (congrArg Prod.fst (F.1 53 (8, 4) rfl rfl)) rfl (by decide) rfl rfl ⟨by decide, by decide⟩ (jC.of rfl k_X8_at rfl ?_)
                      show jX m_X8_at 98 0 0 0 [(0, .ref 53), (1, .int a1), (2, .int 1)] [] _ 0 0 _
                      refine x_iloadn (x := a1) rfl rfl ?_
                      refine x_iflt (tgt := 24) rfl rfl (ti_lt (show (a1 : Int32).toInt = a1.toInt from rfl) (show (0 : Int32).toInt = 0 by decide) (br_f c2 ?_))
                      refine x_iloadn (x := a1) rfl rfl ?_
                      refine x_aloadn (x := 53) rfl rfl ?_
                      refine y_getI (v := 0) 8 3 rfl f_8_7 rfl (congrArg Prod.fst (F.1 53 (8, 4) rfl rfl)) (F.2.2.1 6787 0 rfl rfl) ?_
                      refine x_icge (tgt := 24) rfl rfl (ti_ge (show (a1 : Int32).toInt = a1.toInt from rfl) (show (0 : Int32).toInt = 0 by decide) (br_f c3 ?_))
                      refine x_iloadn (x := 1) rfl rfl ?_
                      refine x_iflt (tgt := 24) rfl rfl (br_f (by decide) ?_)
                      refine x_iloadn (x := 1) rfl rfl ?_
                      refine x_aloadn (x := 53) rfl rfl ?_
                      refine y_getI (v := 4) 8 0 rfl f_8_19 rfl (congrArg Prod.fst (F.1 53 (8, 4) rfl rfl)) (F.2.2.1 6784 4 rfl rfl) ?_
                      refine x_iclt (tgt := 26) rfl rfl (br_t (by decide) ?_)
                      refine x_aloadn (x := 53) rfl rfl ?_
                      refine x_getR (b := 54) 8 2 rfl f_8_25 rfl (congrArg Prod.fst (F.1 53 (8, 4) rfl rfl)) (F.2.1 6786 54 rfl rfl) ?_
                      refine x_iloadn (x := a1) rfl rfl ?_
                      refine x_aloadn (x := 53) rfl rfl ?_
                      refine y_getI (v := 4) 8 0 rfl f_8_19 rfl (congrArg Prod.fst (F.1 53 (8, 4) rfl rfl)) (F.2.2.1 6784 4 rfl rfl) ?_
                      refine x_imul rfl ?_
                      refine x_iloadn (x := 1) rfl rfl ?_
                      refine x_iadd rfl ?_
                      refine y_iald (v := 0) (N := 160) ((a1 * 4) + 1).toNatClampNeg rfl (F.1 54 (100, 160) rfl rfl) (vpi (by omega)) rfl (F.2.2.2.1 54 rfl rfl _).1 ?_
                      refine x_iret rfl rfl ?_
                      show jX m_X4_partOut 99 0 0 63 [(4, .int 0), (3, .int 0), (0, .ref 107), (1, .int a1), (2, .int a3)] [.int 0, .ref 98] _ 0 0 _
                      refine x_sipush (v := 366) rfl ks_366 ?_
                      refine y_imul (v := 0) rfl (by decide) ?_
                      refine x_iloadn (x := a3) rfl rfl ?_
                      refine x_inv (N := m_X0_turnTo) (As := [.int 0, .int a3]) (b := 98) (st := []) (d' := 98) (mc := 0) (ms := 0) (host := "") 0 rfl t_X0_turnTo ⟨Or.inl q_4_101, i_X0_turnTo.1, i_X0_turnTo.2⟩ ⟨by decide, rfl⟩ (congrArg Prod.fst (F.1 98 (0, 16) rfl rfl)) rfl (by decide) rfl rfl ⟨by decide, by decide⟩ (jC.of rfl k_X0_turnTo rfl ?_)
                      show jX m_X0_turnTo 98 0 0 0 [(0, .ref 98), (1, .int 0), (2, .int a3)] [] _ 0 0 _
                      refine x_aloadn (x := 98) rfl rfl ?_
                      refine x_iloadn (x := 0) rfl rfl ?_
                      refine x_iloadn (x := a3) rfl rfl ?_
                      refine x_inv (N := m_X0_readLaws) (As := [.int 0, .int a3]) (b := 98) (st := []) (d' := 97) (mc := 0) (ms := 0) (host := "") 0 rfl t_X0_readLaws ⟨Or.inl q_0_65, i_X0_readLaws.1, i_X0_readLaws.2⟩ ⟨by decide, rfl⟩ (congrArg Prod.fst (F.1 98 (0, 16) rfl rfl)) rfl (by decide) rfl rfl ⟨by decide, by decide⟩ (jC.of rfl k_X0_readLaws rfl ?_)
                      show jX m_X0_readLaws 97 0 0 0 [(0, .ref 98), (1, .int 0), (2, .int a3)] [] _ 0 0 _
                      refine x_aloadn (x := 98) rfl rfl ?_
                      refine x_iloadn (x := 0) rfl rfl ?_
                      refine x_putI 0 10 rfl f_0_37 rfl (jfin_no TX0 RX0 16 rfl rfl) (congrArg Prod.fst (F.1 98 (0, 16) rfl rfl)) rfl ?_
                      refine x_aloadn (x := 98) rfl rfl ?_
                      refine x_iloadn (x := a3) rfl rfl ?_
                      refine x_putI 0 11 rfl f_0_41 rfl (jfin_no TX0 RX0 16 rfl rfl) (congrArg Prod.fst (F.1 98 (0, 16) rfl rfl)) rfl ?_
                      refine x_aloadn (x := 98) rfl rfl ?_
                      refine x_getR (b := 101) 0 4 rfl f_0_18 rfl (congrArg Prod.fst (F.1 98 (0, 16) rfl rfl)) (F.2.1 12548 101 rfl rfl) ?_
                      refine x_aloadn (x := 98) rfl rfl ?_
                      refine y_getI (v := 0) 0 10 rfl f_0_37 rfl (congrArg Prod.fst (F.1 98 (0, 16) rfl rfl)) rfl ?_
                      refine x_aloadn (x := 98) rfl rfl ?_
                      refine y_getI (v := a3) 0 11 rfl f_0_41 rfl (congrArg Prod.fst (F.1 98 (0, 16) rfl rfl)) rfl ?_
                      refine x_aloadn (x := 98) rfl rfl ?_
                      refine x_getR (b := 32) 0 0 rfl f_0_57 rfl (congrArg Prod.fst (F.1 98 (0, 16) rfl rfl)) (F.2.1 12544 32 rfl rfl) ?_
                      refine y_getI (v := 1) 1 19 rfl f_0_81 rfl (congrArg Prod.fst (F.1 32 (1, 20) rfl rfl)) (F.2.2.1 4115 1 rfl rfl) ?_
                      refine x_inst (N := m_X11_isFresh) (As := [.ref 101, .int 0, .int a3, .int 1]) (st := []) (d' := 96) (mc := 0) (ms := 0) (host := "ParishChest") rfl t_X11_isFresh ⟨Or.inr q_0_84, s_X11_isFresh⟩ rfl (by decide) rfl rfl ⟨by decide, by decide⟩ (jC.of rfl k_X11_isFresh rfl ?_)
                      show jX m_X11_isFresh 96 0 0 0 [(0, .ref 101), (1, .int 0), (2, .int a3), (3, .int 1)] [] _ 0 0 _
                      refine x_aloadn (x := 101) rfl rfl ?_
                      refine y_alen (N := 3) (v := 3) rfl (F.1 101 (100, 3) rfl rfl) (by decide) (by decide) ?_
                      refine x_iconst (v := 3) rfl ki_3 ?_
                      refine x_icge (tgt := 8) rfl rfl (br_t (by decide) ?_)
                      refine x_aloadn (x := 101) rfl rfl ?_
                      refine x_iconst (v := 0) rfl ki_0 ?_
                      refine y_iald (v := 0) (N := 3) 0 rfl (F.1 101 (100, 3) rfl rfl) (jinb_of (by decide)) (by decide) (F.2.2.2.1 101 rfl rfl 0).1 ?_
                      refine x_iloadn (x := 0) rfl rfl ?_
                      refine x_icne (tgt := 33) rfl rfl (bn_f (by decide) ?_)
                      refine x_aloadn (x := 101) rfl rfl ?_
                      refine x_iconst (v := 1) rfl ki_1 ?_
                      refine y_iald (v := 0) (N := 3) 1 rfl (F.1 101 (100, 3) rfl rfl) (jinb_of (by decide)) (by decide) (F.2.2.2.1 101 rfl rfl 1).1 ?_
                      refine x_iloadn (x := a3) rfl rfl ?_
                      refine x_icne (tgt := 33) rfl rfl (ti_ne (show (0 : Int32).toInt = 0 by decide) (show (a3 : Int32).toInt = a3.toInt from rfl) (bn_t c12 ?_))
                      refine x_iconst (v := 0) rfl ki_0 ?_
                      refine x_istore (ls' := [(4, .int 0), (0, .ref 101), (1, .int 0), (2, .int a3), (3, .int 1)]) rfl rfl rfl ?_
                      refine x_aloadn (x := 101) rfl rfl ?_
                      refine x_iconst (v := 0) rfl ki_0 ?_
                      refine x_iloadn (x := 0) rfl rfl ?_
                      refine y_iast (N := 3) 0 rfl (F.1 101 (100, 3) rfl rfl) rfl (jinb_of (by decide)) (by decide) ?_
                      refine x_aloadn (x := 101) rfl rfl ?_
                      refine x_iconst (v := 1) rfl ki_1 ?_
                      refine x_iloadn (x := a3) rfl rfl ?_
                      refine y_iast (N := 3) 1 rfl (F.1 101 (100, 3) rfl rfl) rfl (jinb_of (by decide)) (by decide) ?_
                      refine x_aloadn (x := 101) rfl rfl ?_
                      refine x_iconst (v := 2) rfl ki_2 ?_
                      refine x_iloadn (x := 1) rfl rfl ?_
                      refine y_iast (N := 3) 2 rfl (F.1 101 (100, 3) rfl rfl) rfl (jinb_of (by decide)) (by decide) ?_
                      refine x_iload (x := 0) rfl rfl ?_
                      refine x_zret rfl rfl (by first | decide | exact jp_01 _) ?_
                      show jX m_X0_readLaws 97 0 0 32 [(0, .ref 98), (1, .int 0), (2, .int a3)] [.int 0] _ 0 0 _
                      refine x_ifeq (tgt := 36) rfl rfl (br_t (by decide) ?_)
                      refine x_bipush (v := 30) rfl kb_30 ?_
                      refine x_aloadn (x := 98) rfl rfl ?_
                      refine x_getR (b := 32) 0 0 rfl f_0_57 rfl (congrArg Prod.fst (F.1 98 (0, 16) rfl rfl)) (F.2.1 12544 32 rfl rfl) ?_
                      refine y_getI (v := 0) 1 18 rfl f_0_72 rfl (congrArg Prod.fst (F.1 32 (1, 20) rfl rfl)) (F.2.2.1 4114 0 rfl rfl) ?_
                      refine x_inst (N := m_J9_min_7cf53) (As := [.int 30, .int 0]) (st := []) (d' := 96) (mc := 0) (ms := 0) (host := "") rfl t_J9_min_7cf53 ⟨Or.inl q_0_88, s_J9_min_7cf53⟩ rfl (by decide) rfl rfl ⟨by decide, by decide⟩ (jC.of rfl k_J9_min_7cf53 rfl ?_)
                      show jX m_J9_min_7cf53 96 0 0 0 [(0, .int 30), (1, .int 0)] [] _ 0 0 _
                      refine x_iloadn (x := 30) rfl rfl ?_
                      refine x_iloadn (x := 0) rfl rfl ?_
                      refine x_icgt (tgt := 9) rfl rfl (br_t (by decide) ?_)
                      refine x_iloadn (x := 0) rfl rfl ?_
                      refine x_iret rfl rfl ?_
                      show jX m_X0_readLaws 97 0 0 48 [(0, .ref 98), (1, .int 0), (2, .int a3)] [.int 0] _ 0 0 _
                      refine x_istoren (ls' := [(3, .int 0), (0, .ref 98), (1, .int 0), (2, .int a3)]) rfl rfl rfl ?_
                      refine x_iconst (v := 0) rfl ki_0 ?_
                      refine x_istore (ls' := [(4, .int 0), (3, .int 0), (0, .ref 98), (1, .int 0), (2, .int a3)]) rfl rfl rfl ?_
                      refine x_iload (x := 0) rfl rfl ?_
                      refine x_iloadn (x := 0) rfl rfl ?_
                      refine x_icge (tgt := 80) rfl rfl (br_t (by decide) ?_)
                      refine x_iloadn (x := 0) rfl rfl ?_
                      refine x_iconst (v := 1) rfl ki_1 ?_
                      refine y_isub (v := (-1)) rfl (by decide) ?_
                      refine x_istore (ls' := [(4, .int (-1)), (3, .int 0), (0, .ref 98), (1, .int 0), (2, .int a3)]) rfl rfl rfl ?_
                      refine x_iload (x := (-1)) rfl rfl ?_
                      refine x_iflt (tgt := 167) rfl rfl (br_t (by decide) ?_)
                      refine x_vret rfl rfl ?_
                      show jX m_X0_turnTo 98 0 0 6 [(0, .ref 98), (1, .int 0), (2, .int a3)] [] _ 0 0 _
                      refine x_aloadn (x := 98) rfl rfl ?_
                      refine x_iloadn (x := 0) rfl rfl ?_
                      refine x_iloadn (x := a3) rfl rfl ?_
                      refine x_inv (N := m_X0_readHouses) (As := [.int 0, .int a3]) (b := 98) (st := []) (d' := 97) (mc := 0) (ms := 0) (host := "") 0 rfl t_X0_readHouses ⟨Or.inl q_0_69, i_X0_readHouses.1, i_X0_readHouses.2⟩ ⟨by decide, rfl⟩ (congrArg Prod.fst (F.1 98 (0, 16) rfl rfl)) rfl (by decide) rfl rfl ⟨by decide, by decide⟩ (jC.of rfl k_X0_readHouses rfl ?_)
                      show jX m_X0_readHouses 97 0 0 0 [(0, .ref 98), (1, .int 0), (2, .int a3)] [] _ 0 0 _
                      refine x_aloadn (x := 98) rfl rfl ?_
                      refine x_iloadn (x := 0) rfl rfl ?_
                      refine x_putI 0 10 rfl f_0_37 rfl (jfin_no TX0 RX0 16 rfl rfl) (congrArg Prod.fst (F.1 98 (0, 16) rfl rfl)) rfl ?_
                      refine x_aloadn (x := 98) rfl rfl ?_
                      refine x_iloadn (x := a3) rfl rfl ?_
                      refine x_putI 0 11 rfl f_0_41 rfl (jfin_no TX0 RX0 16 rfl rfl) (congrArg Prod.fst (F.1 98 (0, 16) rfl rfl)) rfl ?_
                      refine x_aloadn (x := 98) rfl rfl ?_
                      refine x_getR (b := 105) 0 8 rfl f_0_30 rfl (congrArg Prod.fst (F.1 98 (0, 16) rfl rfl)) (F.2.1 12552 105 rfl rfl) ?_
                      refine x_aloadn (x := 98) rfl rfl ?_
                      refine y_getI (v := 0) 0 10 rfl f_0_37 rfl (congrArg Prod.fst (F.1 98 (0, 16) rfl rfl)) rfl ?_
                      refine x_aloadn (x := 98) rfl rfl ?_
                      refine y_getI (v := a3) 0 11 rfl f_0_41 rfl (congrArg Prod.fst (F.1 98 (0, 16) rfl rfl)) rfl ?_
                      refine x_aloadn (x := 98) rfl rfl ?_
                      refine x_getR (b := 32) 0 0 rfl f_0_57 rfl (congrArg Prod.fst (F.1 98 (0, 16) rfl rfl)) (F.2.1 12544 32 rfl rfl) ?_
                      refine y_getI (v := 1) 1 19 rfl f_0_81 rfl (congrArg Prod.fst (F.1 32 (1, 20) rfl rfl)) (F.2.2.1 4115 1 rfl rfl) ?_
                      refine x_inst (N := m_X11_isFresh) (As := [.ref 105, .int 0, .int a3, .int 1]) (st := []) (d' := 96) (mc := 0) (ms := 0) (host := "ParishChest") rfl t_X11_isFresh ⟨Or.inr q_0_84, s_X11_isFresh⟩ rfl (by decide) rfl rfl ⟨by decide, by decide⟩ (jC.of rfl k_X11_isFresh rfl ?_)
                      show jX m_X11_isFresh 96 0 0 0 [(0, .ref 105), (1, .int 0), (2, .int a3), (3, .int 1)] [] _ 0 0 _
                      refine x_aloadn (x := 105) rfl rfl ?_
                      refine y_alen (N := 3) (v := 3) rfl (F.1 105 (100, 3) rfl rfl) (by decide) (by decide) ?_
                      refine x_iconst (v := 3) rfl ki_3 ?_
                      refine x_icge (tgt := 8) rfl rfl (br_t (by decide) ?_)
                      refine x_aloadn (x := 105) rfl rfl ?_
                      refine x_iconst (v := 0) rfl ki_0 ?_
                      refine y_iald (v := 0) (N := 3) 0 rfl (F.1 105 (100, 3) rfl rfl) (jinb_of (by decide)) (by decide) (F.2.2.2.1 105 rfl rfl 0).1 ?_
                      refine x_iloadn (x := 0) rfl rfl ?_
                      refine x_icne (tgt := 33) rfl rfl (bn_f (by decide) ?_)
                      refine x_aloadn (x := 105) rfl rfl ?_
                      refine x_iconst (v := 1) rfl ki_1 ?_
                      refine y_iald (v := 0) (N := 3) 1 rfl (F.1 105 (100, 3) rfl rfl) (jinb_of (by decide)) (by decide) (F.2.2.2.1 105 rfl rfl 1).1 ?_
                      refine x_iloadn (x := a3) rfl rfl ?_
                      refine x_icne (tgt := 33) rfl rfl (ti_ne (show (0 : Int32).toInt = 0 by decide) (show (a3 : Int32).toInt = a3.toInt from rfl) (bn_t c12 ?_))
                      refine x_iconst (v := 0) rfl ki_0 ?_
                      refine x_istore (ls' := [(4, .int 0), (0, .ref 105), (1, .int 0), (2, .int a3), (3, .int 1)]) rfl rfl rfl ?_
                      refine x_aloadn (x := 105) rfl rfl ?_
                      refine x_iconst (v := 0) rfl ki_0 ?_
                      refine x_iloadn (x := 0) rfl rfl ?_
                      refine y_iast (N := 3) 0 rfl (F.1 105 (100, 3) rfl rfl) rfl (jinb_of (by decide)) (by decide) ?_
                      refine x_aloadn (x := 105) rfl rfl ?_
                      refine x_iconst (v := 1) rfl ki_1 ?_
                      refine x_iloadn (x := a3) rfl rfl ?_
                      refine y_iast (N := 3) 1 rfl (F.1 105 (100, 3) rfl rfl) rfl (jinb_of (by decide)) (by decide) ?_
                      refine x_aloadn (x := 105) rfl rfl ?_
                      refine x_iconst (v := 2) rfl ki_2 ?_
                      refine x_iloadn (x := 1) rfl rfl ?_
                      refine y_iast (N := 3) 2 rfl (F.1 105 (100, 3) rfl rfl) rfl (jinb_of (by decide)) (by decide) ?_
                      refine x_iload (x := 0) rfl rfl ?_
                      refine x_zret rfl rfl (by first | decide | exact jp_01 _) ?_
                      show jX m_X0_readHouses 97 0 0 32 [(0, .ref 98), (1, .int 0), (2, .int a3)] [.int 0] _ 0 0 _
                      refine x_ifeq (tgt := 36) rfl rfl (br_t (by decide) ?_)
                      refine x_bipush (v := 40) rfl kb_40 ?_
                      refine x_aloadn (x := 98) rfl rfl ?_
                      refine x_getR (b := 32) 0 0 rfl f_0_57 rfl (congrArg Prod.fst (F.1 98 (0, 16) rfl rfl)) (F.2.1 12544 32 rfl rfl) ?_
                      refine x_getR (b := 49) 1 8 rfl f_0_120 rfl (congrArg Prod.fst (F.1 32 (1, 20) rfl rfl)) (F.2.1 4104 49 rfl rfl) ?_
                      refine y_getI (v := 0) 8 3 rfl f_0_124 rfl (congrArg Prod.fst (F.1 49 (8, 4) rfl rfl)) (F.2.2.1 6275 0 rfl rfl) ?_
                      refine x_inst (N := m_J9_min_7cf53) (As := [.int 40, .int 0]) (st := []) (d' := 96) (mc := 0) (ms := 0) (host := "") rfl t_J9_min_7cf53 ⟨Or.inl q_0_88, s_J9_min_7cf53⟩ rfl (by decide) rfl rfl ⟨by decide, by decide⟩ (jC.of rfl k_J9_min_7cf53 rfl ?_)
                      show jX m_J9_min_7cf53 96 0 0 0 [(0, .int 40), (1, .int 0)] [] _ 0 0 _
                      refine x_iloadn (x := 40) rfl rfl ?_
                      refine x_iloadn (x := 0) rfl rfl ?_
                      refine x_icgt (tgt := 9) rfl rfl (br_t (by decide) ?_)
                      refine x_iloadn (x := 0) rfl rfl ?_
                      refine x_iret rfl rfl ?_
                      show jX m_X0_readHouses 97 0 0 51 [(0, .ref 98), (1, .int 0), (2, .int a3)] [.int 0] _ 0 0 _
                      refine x_istoren (ls' := [(3, .int 0), (0, .ref 98), (1, .int 0), (2, .int a3)]) rfl rfl rfl ?_
                      refine x_aloadn (x := 98) rfl rfl ?_
                      refine x_aloadn (x := 98) rfl rfl ?_
                      refine x_getR (b := 32) 0 0 rfl f_0_57 rfl (congrArg Prod.fst (F.1 98 (0, 16) rfl rfl)) (F.2.1 12544 32 rfl rfl) ?_
                      refine x_getR (b := 47) 1 7 rfl f_0_129 rfl (congrArg Prod.fst (F.1 32 (1, 20) rfl rfl)) (F.2.1 4103 47 rfl rfl) ?_
                      refine x_iconst (v := 3) rfl ki_3 ?_
                      refine x_aloadn (x := 98) rfl rfl ?_
                      refine x_getR (b := 102) 0 5 rfl f_0_21 rfl (congrArg Prod.fst (F.1 98 (0, 16) rfl rfl)) (F.2.1 12549 102 rfl rfl) ?_
                      refine x_iconst (v := 0) rfl ki_0 ?_
                      refine x_inv (N := m_X0_readLatest) (As := [.ref 47, .int 3, .ref 102, .int 0]) (b := 98) (st := []) (d' := 96) (mc := 0) (ms := 0) (host := "") 0 rfl t_X0_readLatest ⟨Or.inl q_0_132, i_X0_readLatest.1, i_X0_readLatest.2⟩ ⟨by decide, rfl⟩ (congrArg Prod.fst (F.1 98 (0, 16) rfl rfl)) rfl (by decide) rfl rfl ⟨by decide, by decide⟩ (jC.of rfl k_X0_readLatest rfl ?_)
                      show jX m_X0_readLatest 96 0 0 0 [(0, .ref 98), (1, .ref 47), (2, .int 3), (3, .ref 102), (4, .int 0)] [] _ 0 0 _
                      refine x_iconst (v := 0) rfl ki_0 ?_
                      refine x_istore (ls' := [(5, .int 0), (0, .ref 98), (1, .ref 47), (2, .int 3), (3, .ref 102), (4, .int 0)]) rfl rfl rfl ?_
                      refine x_iload (x := 0) rfl rfl ?_
                      refine x_bipush (v := 40) rfl kb_40 ?_
                      refine x_icge (tgt := 52) rfl rfl (br_f (by decide) ?_)
                      refine x_iload (x := 0) rfl rfl ?_
                      refine x_aloadn (x := 98) rfl rfl ?_
                      refine x_getR (b := 32) 0 0 rfl f_0_57 rfl (congrArg Prod.fst (F.1 98 (0, 16) rfl rfl)) (F.2.1 12544 32 rfl rfl) ?_
                      refine x_getR (b := 49) 1 8 rfl f_0_120 rfl (congrArg Prod.fst (F.1 32 (1, 20) rfl rfl)) (F.2.1 4104 49 rfl rfl) ?_
                      refine y_getI (v := 0) 8 3 rfl f_0_124 rfl (congrArg Prod.fst (F.1 49 (8, 4) rfl rfl)) (F.2.2.1 6275 0 rfl rfl) ?_
                      refine x_icge (tgt := 52) rfl rfl (br_t (by decide) ?_)
                      refine x_iconst (v := 0) rfl ki_0 ?_
                      refine x_istore (ls' := [(5, .int 0), (0, .ref 98), (1, .ref 47), (2, .int 3), (3, .ref 102), (4, .int 0)]) rfl rfl rfl ?_
                      refine x_iload (x := 0) rfl rfl ?_
                      refine x_aloadn (x := 47) rfl rfl ?_
                      refine y_getI (v := 0) 8 3 rfl f_0_124 rfl (congrArg Prod.fst (F.1 47 (8, 4) rfl rfl)) (F.2.2.1 6019 0 rfl rfl) ?_
                      refine x_icge (tgt := 161) rfl rfl (br_t (by decide) ?_)
                      refine x_vret rfl rfl ?_
                      show jX m_X0_readHouses 97 0 0 69 [(3, .int 0), (0, .ref 98), (1, .int 0), (2, .int a3)] [] _ 0 0 _
                      refine x_aloadn (x := 98) rfl rfl ?_
                      refine x_aloadn (x := 98) rfl rfl ?_
                      refine x_getR (b := 32) 0 0 rfl f_0_57 rfl (congrArg Prod.fst (F.1 98 (0, 16) rfl rfl)) (F.2.1 12544 32 rfl rfl) ?_
                      refine x_getR (b := 51) 1 9 rfl f_0_136 rfl (congrArg Prod.fst (F.1 32 (1, 20) rfl rfl)) (F.2.1 4105 51 rfl rfl) ?_
                      refine x_iconst (v := 3) rfl ki_3 ?_
                      refine x_aloadn (x := 98) rfl rfl ?_
                      refine x_getR (b := 103) 0 6 rfl f_0_24 rfl (congrArg Prod.fst (F.1 98 (0, 16) rfl rfl)) (F.2.1 12550 103 rfl rfl) ?_
                      refine x_iconst (v := (-1)) rfl ki_m1 ?_
                      refine x_inv (N := m_X0_readLatest) (As := [.ref 51, .int 3, .ref 103, .int (-1)]) (b := 98) (st := []) (d' := 96) (mc := 0) (ms := 0) (host := "") 0 rfl t_X0_readLatest ⟨Or.inl q_0_132, i_X0_readLatest.1, i_X0_readLatest.2⟩ ⟨by decide, rfl⟩ (congrArg Prod.fst (F.1 98 (0, 16) rfl rfl)) rfl (by decide) rfl rfl ⟨by decide, by decide⟩ (jC.of rfl k_X0_readLatest rfl ?_)
                      show jX m_X0_readLatest 96 0 0 0 [(0, .ref 98), (1, .ref 51), (2, .int 3), (3, .ref 103), (4, .int (-1))] [] _ 0 0 _
                      refine x_iconst (v := 0) rfl ki_0 ?_
                      refine x_istore (ls' := [(5, .int 0), (0, .ref 98), (1, .ref 51), (2, .int 3), (3, .ref 103), (4, .int (-1))]) rfl rfl rfl ?_
                      refine x_iload (x := 0) rfl rfl ?_
                      refine x_bipush (v := 40) rfl kb_40 ?_
                      refine x_icge (tgt := 52) rfl rfl (br_f (by decide) ?_)
                      refine x_iload (x := 0) rfl rfl ?_
                      refine x_aloadn (x := 98) rfl rfl ?_
                      refine x_getR (b := 32) 0 0 rfl f_0_57 rfl (congrArg Prod.fst (F.1 98 (0, 16) rfl rfl)) (F.2.1 12544 32 rfl rfl) ?_
                      refine x_getR (b := 49) 1 8 rfl f_0_120 rfl (congrArg Prod.fst (F.1 32 (1, 20) rfl rfl)) (F.2.1 4104 49 rfl rfl) ?_
                      refine y_getI (v := 0) 8 3 rfl f_0_124 rfl (congrArg Prod.fst (F.1 49 (8, 4) rfl rfl)) (F.2.2.1 6275 0 rfl rfl) ?_
                      refine x_icge (tgt := 52) rfl rfl (br_t (by decide) ?_)
                      refine x_iconst (v := 0) rfl ki_0 ?_
                      refine x_istore (ls' := [(5, .int 0), (0, .ref 98), (1, .ref 51), (2, .int 3), (3, .ref 103), (4, .int (-1))]) rfl rfl rfl ?_
                      refine x_iload (x := 0) rfl rfl ?_
                      refine x_aloadn (x := 51) rfl rfl ?_
                      refine y_getI (v := 0) 8 3 rfl f_0_124 rfl (congrArg Prod.fst (F.1 51 (8, 4) rfl rfl)) (F.2.2.1 6531 0 rfl rfl) ?_
                      refine x_icge (tgt := 161) rfl rfl (br_t (by decide) ?_)
                      refine x_vret rfl rfl ?_
                      show jX m_X0_readHouses 97 0 0 86 [(3, .int 0), (0, .ref 98), (1, .int 0), (2, .int a3)] [] _ 0 0 _
                      refine x_iconst (v := 0) rfl ki_0 ?_
                      refine x_istore (ls' := [(4, .int 0), (3, .int 0), (0, .ref 98), (1, .int 0), (2, .int a3)]) rfl rfl rfl ?_
                      refine x_iload (x := 0) rfl rfl ?_
                      refine x_iloadn (x := 0) rfl rfl ?_
                      refine x_icge (tgt := 172) rfl rfl (br_t (by decide) ?_)
                      refine x_vret rfl rfl ?_
                      show jX m_X0_turnTo 98 0 0 12 [(0, .ref 98), (1, .int 0), (2, .int a3)] [] _ 0 0 _
                      refine x_vret rfl rfl ?_
                      show jX m_X4_partOut 99 0 0 71 [(4, .int 0), (3, .int 0), (0, .ref 107), (1, .int a1), (2, .int a3)] [] _ 0 0 _
                      refine x_lconst (v := 0) rfl kl_0 ?_
                      refine x_lstore (ls' := [(5, .long 0), (4, .int 0), (3, .int 0), (0, .ref 107), (1, .int a1), (2, .int a3)]) rfl rfl rfl ?_
                      refine x_iconst (v := 0) rfl ki_0 ?_
                      refine x_istore (ls' := [(7, .int 0), (5, .long 0), (4, .int 0), (3, .int 0), (0, .ref 107), (1, .int a1), (2, .int a3)]) rfl rfl rfl ?_
                      refine x_iload (x := 0) rfl rfl ?_
                      refine x_aloadn (x := 107) rfl rfl ?_
                      refine x_inv (N := m_X4_houses) (As := []) (b := 107) (st := [.int 0]) (d' := 98) (mc := 0) (ms := 0) (host := "") 4 rfl t_X4_houses ⟨Or.inl q_4_107, i_X4_houses.1, i_X4_houses.2⟩ ⟨by decide, rfl⟩ (congrArg Prod.fst (F.1 107 (4, 18) rfl rfl)) rfl (by decide) rfl rfl ⟨by decide, by decide⟩ (jC.of rfl k_X4_houses rfl ?_)
                      show jX m_X4_houses 98 0 0 0 [(0, .ref 107)] [] _ 0 0 _
                      refine x_bipush (v := 40) rfl kb_40 ?_
                      refine x_aloadn (x := 107) rfl rfl ?_
                      refine x_getR (b := 32) 4 0 rfl f_4_59 rfl (congrArg Prod.fst (F.1 107 (4, 18) rfl rfl)) (F.2.1 13696 32 rfl rfl) ?_
                      refine x_getR (b := 49) 1 8 rfl f_4_71 rfl (congrArg Prod.fst (F.1 32 (1, 20) rfl rfl)) (F.2.1 4104 49 rfl rfl) ?_
                      refine y_getI (v := 0) 8 3 rfl f_4_77 rfl (congrArg Prod.fst (F.1 49 (8, 4) rfl rfl)) (F.2.2.1 6275 0 rfl rfl) ?_
                      refine x_inst (N := m_J9_min_7cf53) (As := [.int 40, .int 0]) (st := []) (d' := 97) (mc := 0) (ms := 0) (host := "") rfl t_J9_min_7cf53 ⟨Or.inl q_4_82, s_J9_min_7cf53⟩ rfl (by decide) rfl rfl ⟨by decide, by decide⟩ (jC.of rfl k_J9_min_7cf53 rfl ?_)
                      show jX m_J9_min_7cf53 97 0 0 0 [(0, .int 40), (1, .int 0)] [] _ 0 0 _
                      refine x_iloadn (x := 40) rfl rfl ?_
                      refine x_iloadn (x := 0) rfl rfl ?_
                      refine x_icgt (tgt := 9) rfl rfl (br_t (by decide) ?_)
                      refine x_iloadn (x := 0) rfl rfl ?_
                      refine x_iret rfl rfl ?_
                      show jX m_X4_houses 98 0 0 15 [(0, .ref 107)] [.int 0] _ 0 0 _
                      refine x_iret rfl rfl ?_
                      show jX m_X4_partOut 99 0 0 83 [(7, .int 0), (5, .long 0), (4, .int 0), (3, .int 0), (0, .ref 107), (1, .int a1), (2, .int a3)] [.int 0, .int 0] _ 0 0 _
                      refine x_icge (tgt := 187) rfl rfl (br_t (by decide) ?_)
                      refine x_aloadn (x := 107) rfl rfl ?_
                      refine x_iload (x := 0) rfl rfl ?_
                      refine x_lload (x := 0) rfl rfl ?_
                      refine x_inv (N := m_X4_share) (As := [.int 0, .long 0]) (b := 107) (st := []) (d' := 98) (mc := 0) (ms := 0) (host := "") 4 rfl t_X4_share ⟨Or.inl q_4_123, i_X4_share.1, i_X4_share.2⟩ ⟨by decide, rfl⟩ (congrArg Prod.fst (F.1 107 (4, 18) rfl rfl)) rfl (by decide) rfl rfl ⟨by decide, by decide⟩ (jC.of rfl k_X4_share rfl ?_)
                      show jX m_X4_share 98 0 0 0 [(0, .ref 107), (1, .int 0), (2, .long 0)] [] _ 0 0 _
                      refine x_lloadn (x := 0) rfl rfl ?_
                      refine x_lconst (v := 0) rfl kl_0 ?_
                      refine y_lcmp (v := 0) rfl (by decide) ?_
                      refine x_ifne (tgt := 10) rfl rfl (bn_f (by decide) ?_)
                      refine x_lconst (v := 0) rfl kl_0 ?_
                      refine x_goto (tgt := 12) rfl rfl ?_
                      refine x_lstore (ls' := [(4, .long 0), (0, .ref 107), (1, .int 0), (2, .long 0)]) rfl rfl rfl ?_
                      refine x_iconst (v := 0) rfl ki_0 ?_
                      refine x_istore (ls' := [(6, .int 0), (4, .long 0), (0, .ref 107), (1, .int 0), (2, .long 0)]) rfl rfl rfl ?_
                      refine x_iload (x := 0) rfl rfl ?_
                      refine x_aloadn (x := 107) rfl rfl ?_
                      refine x_inv (N := m_X4_houses) (As := []) (b := 107) (st := [.int 0]) (d' := 97) (mc := 0) (ms := 0) (host := "") 4 rfl t_X4_houses ⟨Or.inl q_4_107, i_X4_houses.1, i_X4_houses.2⟩ ⟨by decide, rfl⟩ (congrArg Prod.fst (F.1 107 (4, 18) rfl rfl)) rfl (by decide) rfl rfl ⟨by decide, by decide⟩ (jC.of rfl k_X4_houses rfl ?_)
                      show jX m_X4_houses 97 0 0 0 [(0, .ref 107)] [] _ 0 0 _
                      refine x_bipush (v := 40) rfl kb_40 ?_
                      refine x_aloadn (x := 107) rfl rfl ?_
                      refine x_getR (b := 32) 4 0 rfl f_4_59 rfl (congrArg Prod.fst (F.1 107 (4, 18) rfl rfl)) (F.2.1 13696 32 rfl rfl) ?_
                      refine x_getR (b := 49) 1 8 rfl f_4_71 rfl (congrArg Prod.fst (F.1 32 (1, 20) rfl rfl)) (F.2.1 4104 49 rfl rfl) ?_
                      refine y_getI (v := 0) 8 3 rfl f_4_77 rfl (congrArg Prod.fst (F.1 49 (8, 4) rfl rfl)) (F.2.2.1 6275 0 rfl rfl) ?_
                      refine x_inst (N := m_J9_min_7cf53) (As := [.int 40, .int 0]) (st := []) (d' := 96) (mc := 0) (ms := 0) (host := "") rfl t_J9_min_7cf53 ⟨Or.inl q_4_82, s_J9_min_7cf53⟩ rfl (by decide) rfl rfl ⟨by decide, by decide⟩ (jC.of rfl k_J9_min_7cf53 rfl ?_)
                      show jX m_J9_min_7cf53 96 0 0 0 [(0, .int 40), (1, .int 0)] [] _ 0 0 _
                      refine x_iloadn (x := 40) rfl rfl ?_
                      refine x_iloadn (x := 0) rfl rfl ?_
                      refine x_icgt (tgt := 9) rfl rfl (br_t (by decide) ?_)
                      refine x_iloadn (x := 0) rfl rfl ?_
                      refine x_iret rfl rfl ?_
                      show jX m_X4_houses 97 0 0 15 [(0, .ref 107)] [.int 0] _ 0 0 _
                      refine x_iret rfl rfl ?_
                      show jX m_X4_share 98 0 0 23 [(6, .int 0), (4, .long 0), (0, .ref 107), (1, .int 0), (2, .long 0)] [.int 0, .int 0] _ 0 0 _
                      refine x_icge (tgt := 113) rfl rfl (br_t (by decide) ?_)
                      refine x_iconst (v := 0) rfl ki_0 ?_
                      refine x_istore (ls' := [(6, .int 0), (4, .long 0), (0, .ref 107), (1, .int 0), (2, .long 0)]) rfl rfl rfl ?_
                      refine x_iload (x := 0) rfl rfl ?_
                      refine x_bipush (v := 40) rfl kb_40 ?_
                      refine x_icge (tgt := 175) rfl rfl (br_f (by decide) ?_)
                      refine x_lload (x := 0) rfl rfl ?_
                      refine x_lconst (v := 0) rfl kl_0 ?_
                      refine y_lcmp (v := 0) rfl (by decide) ?_
                      refine x_ifle (tgt := 175) rfl rfl (br_t (by decide) ?_)
                      refine x_vret rfl rfl ?_
                      show jX m_X4_partOut 99 0 0 195 [(7, .int 0), (5, .long 0), (4, .int 0), (3, .int 0), (0, .ref 107), (1, .int a1), (2, .int a3)] [] _ 0 0 _
                      refine x_iconst (v := 0) rfl ki_0 ?_
                      refine x_istore (ls' := [(7, .int 0), (5, .long 0), (4, .int 0), (3, .int 0), (0, .ref 107), (1, .int a1), (2, .int a3)]) rfl rfl rfl ?_
                      refine x_iload (x := 0) rfl rfl ?_
                      refine x_aloadn (x := 107) rfl rfl ?_
                      refine x_inv (N := m_X4_houses) (As := []) (b := 107) (st := [.int 0]) (d' := 98) (mc := 0) (ms := 0) (host := "") 4 rfl t_X4_houses ⟨Or.inl q_4_107, i_X4_houses.1, i_X4_houses.2⟩ ⟨by decide, rfl⟩ (congrArg Prod.fst (F.1 107 (4, 18) rfl rfl)) rfl (by decide) rfl rfl ⟨by decide, by decide⟩ (jC.of rfl k_X4_houses rfl ?_)
                      show jX m_X4_houses 98 0 0 0 [(0, .ref 107)] [] _ 0 0 _
                      refine x_bipush (v := 40) rfl kb_40 ?_
                      refine x_aloadn (x := 107) rfl rfl ?_
                      refine x_getR (b := 32) 4 0 rfl f_4_59 rfl (congrArg Prod.fst (F.1 107 (4, 18) rfl rfl)) (F.2.1 13696 32 rfl rfl) ?_
                      refine x_getR (b := 49) 1 8 rfl f_4_71 rfl (congrArg Prod.fst (F.1 32 (1, 20) rfl rfl)) (F.2.1 4104 49 rfl rfl) ?_
                      refine y_getI (v := 0) 8 3 rfl f_4_77 rfl (congrArg Prod.fst (F.1 49 (8, 4) rfl rfl)) (F.2.2.1 6275 0 rfl rfl) ?_
                      refine x_inst (N := m_J9_min_7cf53) (As := [.int 40, .int 0]) (st := []) (d' := 97) (mc := 0) (ms := 0) (host := "") rfl t_J9_min_7cf53 ⟨Or.inl q_4_82, s_J9_min_7cf53⟩ rfl (by decide) rfl rfl ⟨by decide, by decide⟩ (jC.of rfl k_J9_min_7cf53 rfl ?_)
                      show jX m_J9_min_7cf53 97 0 0 0 [(0, .int 40), (1, .int 0)] [] _ 0 0 _
                      refine x_iloadn (x := 40) rfl rfl ?_
                      refine x_iloadn (x := 0) rfl rfl ?_
                      refine x_icgt (tgt := 9) rfl rfl (br_t (by decide) ?_)
                      refine x_iloadn (x := 0) rfl rfl ?_
                      refine x_iret rfl rfl ?_
                      show jX m_X4_houses 98 0 0 15 [(0, .ref 107)] [.int 0] _ 0 0 _
                      refine x_iret rfl rfl ?_
                      show jX m_X4_partOut 99 0 0 204 [(7, .int 0), (5, .long 0), (4, .int 0), (3, .int 0), (0, .ref 107), (1, .int a1), (2, .int a3)] [.int 0, .int 0] _ 0 0 _
                      refine x_icge (tgt := 275) rfl rfl (br_t (by decide) ?_)
                      refine x_vret rfl rfl ?_
                      show jX m_X11_owe 100 0 0 54 [(0, .ref 31), (1, .int a1), (2, .int a2), (3, .int a3)] [] _ 0 0 _
                      refine x_iloadn (x := a2) rfl rfl ?_
                      refine x_iconst (v := (-1)) rfl ki_m1 ?_
                      refine x_icne (tgt := 69) rfl rfl (ti_ne (show (a2 : Int32).toInt = a2.toInt from rfl) (show ((-1) : Int32).toInt = (-1) by decide) (bn_t c5 ?_))
                      refine x_aloadn (x := 31) rfl rfl ?_
                      refine x_getR (b := 107) 11 8 rfl f_11_75 rfl (congrArg Prod.fst (F.1 31 (11, 13) rfl rfl)) (F.2.1 3976 107 rfl rfl) ?_
                      refine x_getR (b := 108) 4 3 rfl f_11_449 rfl (congrArg Prod.fst (F.1 107 (4, 18) rfl rfl)) (F.2.1 13699 108 rfl rfl) ?_
                      refine x_iloadn (x := a2) rfl rfl ?_
                      refine y_iald (v := 0) (N := 40) a2.toNatClampNeg rfl (F.1 108 (100, 40) rfl rfl) (vpi (by omega)) rfl (F.2.2.2.1 108 rfl rfl _).1 ?_
                      refine x_iret rfl rfl ?_
                      exact jqe (show sp_owe a1 a2 a3 = 0 by unfold sp_owe; (repeat' split) <;> first | rfl | (exfalso; omega)) (hQ _ (by repeat (first | exact FM | refine jFb_si rfl ?_ | refine jFb_sl rfl ?_ | refine jFb_ci rfl ?_ | refine jFb_cl rfl ?_ | refine jFb_sr rfl ?_)) (by repeat (first | exact O | refine jOl_si rfl ?_ | refine jOl_sl rfl ?_ | refine jOl_ci rfl ?_ | refine jOl_cl rfl ?_ | refine jOl_sr rfl ?_)))
                  ·
                    refine x_aloadn (x := 86) rfl rfl ?_
                    refine x_iconst (v := 1) rfl ki_1 ?_
                    refine y_iald (v := 0) (N := 3) 1 rfl (F.1 86 (100, 3) rfl rfl) (jinb_of (by decide)) (by decide) (F.2.2.2.1 86 rfl rfl 1).1 ?_
                    refine x_iloadn (x := 0) rfl rfl ?_
                    refine x_icne (tgt := 33) rfl rfl (bn_f (by decide) ?_)
                    refine x_aloadn (x := 86) rfl rfl ?_
                    refine x_iconst (v := 2) rfl ki_2 ?_
                    refine y_iald (v := 0) (N := 3) 2 rfl (F.1 86 (100, 3) rfl rfl) (jinb_of (by decide)) (by decide) (F.2.2.2.1 86 rfl rfl 2).1 ?_
                    refine x_iloadn (x := 1) rfl rfl ?_
                    refine x_icne (tgt := 33) rfl rfl (bn_t (by decide) ?_)
                    refine x_iconst (v := 0) rfl ki_0 ?_
                    refine x_istore (ls' := [(4, .int 0), (0, .ref 86), (1, .int a3), (2, .int 0), (3, .int 1)]) rfl rfl rfl ?_
                    refine x_aloadn (x := 86) rfl rfl ?_
                    refine x_iconst (v := 0) rfl ki_0 ?_
                    refine x_iloadn (x := a3) rfl rfl ?_
                    refine y_iast (N := 3) 0 rfl (F.1 86 (100, 3) rfl rfl) rfl (jinb_of (by decide)) (by decide) ?_
                    refine x_aloadn (x := 86) rfl rfl ?_
                    refine x_iconst (v := 1) rfl ki_1 ?_
                    refine x_iloadn (x := 0) rfl rfl ?_
                    refine y_iast (N := 3) 1 rfl (F.1 86 (100, 3) rfl rfl) rfl (jinb_of (by decide)) (by decide) ?_
                    refine x_aloadn (x := 86) rfl rfl ?_
                    refine x_iconst (v := 2) rfl ki_2 ?_
                    refine x_iloadn (x := 1) rfl rfl ?_
                    refine y_iast (N := 3) 2 rfl (F.1 86 (100, 3) rfl rfl) rfl (jinb_of (by decide)) (by decide) ?_
                    refine x_iload (x := 0) rfl rfl ?_
                    refine x_zret rfl rfl (by first | decide | exact jp_01 _) ?_
                    show jX m_X7_asKnown 99 0 0 16 [(0, .ref 78), (1, .int a3)] [.int 0] _ 0 0 _
                    refine x_ifeq (tgt := 20) rfl rfl (br_t (by decide) ?_)
                    refine x_iconst (v := 0) rfl ki_0 ?_
                    refine x_istoren (ls' := [(2, .int 0), (0, .ref 78), (1, .int a3)]) rfl rfl rfl ?_
                    refine x_iloadn (x := 0) rfl rfl ?_
                    refine x_aloadn (x := 78) rfl rfl ?_
                    refine x_getR (b := 32) 7 0 rfl f_7_55 rfl (congrArg Prod.fst (F.1 78 (7, 16) rfl rfl)) (F.2.1 9984 32 rfl rfl) ?_
                    refine x_getR (b := 33) 1 0 rfl f_7_63 rfl (congrArg Prod.fst (F.1 32 (1, 20) rfl rfl)) (F.2.1 4096 33 rfl rfl) ?_
                    refine y_getI (v := 0) 8 3 rfl f_7_85 rfl (congrArg Prod.fst (F.1 33 (8, 4) rfl rfl)) (F.2.2.1 4227 0 rfl rfl) ?_
                    refine x_iconst (v := 3) rfl ki_3 ?_
                    refine y_imul (v := 0) rfl (by decide) ?_
                    refine x_icge (tgt := 96) rfl rfl (br_t (by decide) ?_)
                    refine x_aloadn (x := 78) rfl rfl ?_
                    refine x_iconst (v := 0) rfl ki_0 ?_
                    refine x_putI 7 13 rfl f_7_46 rfl (jfin_no TX7 RX7 16 rfl rfl) (congrArg Prod.fst (F.1 78 (7, 16) rfl rfl)) rfl ?_
                    refine x_iconst (v := 0) rfl ki_0 ?_
                    refine x_istoren (ls' := [(2, .int 0), (0, .ref 78), (1, .int a3)]) rfl rfl rfl ?_
                    refine x_iloadn (x := 0) rfl rfl ?_
                    refine x_aloadn (x := 78) rfl rfl ?_
                    refine x_getR (b := 32) 7 0 rfl f_7_55 rfl (congrArg Prod.fst (F.1 78 (7, 16) rfl rfl)) (F.2.1 9984 32 rfl rfl) ?_
                    refine x_getR (b := 39) 1 3 rfl f_7_150 rfl (congrArg Prod.fst (F.1 32 (1, 20) rfl rfl)) (F.2.1 4099 39 rfl rfl) ?_
                    refine y_getI (v := 0) 8 3 rfl f_7_85 rfl (congrArg Prod.fst (F.1 39 (8, 4) rfl rfl)) (F.2.2.1 4995 0 rfl rfl) ?_
                    refine x_icge (tgt := 175) rfl rfl (br_t (by decide) ?_)
                    refine x_vret rfl rfl ?_
                    show jX m_X11_owe 100 0 0 45 [(0, .ref 31), (1, .int a1), (2, .int a2), (3, .int a3)] [] _ 0 0 _
                    refine x_aloadn (x := 31) rfl rfl ?_
                    refine x_getR (b := 107) 11 8 rfl f_11_75 rfl (congrArg Prod.fst (F.1 31 (11, 13) rfl rfl)) (F.2.1 3976 107 rfl rfl) ?_
                    refine x_iloadn (x := a1) rfl rfl ?_
                    refine x_iloadn (x := a3) rfl rfl ?_
                    refine x_inv (N := m_X4_partOut) (As := [.int a1, .int a3]) (b := 107) (st := []) (d' := 99) (mc := 0) (ms := 0) (host := "") 4 rfl t_X4_partOut ⟨Or.inl q_11_443, i_X4_partOut.1, i_X4_partOut.2⟩ ⟨by decide, rfl⟩ (congrArg Prod.fst (F.1 107 (4, 18) rfl rfl)) rfl (by decide) rfl rfl ⟨by decide, by decide⟩ (jC.of rfl k_X4_partOut rfl ?_)
                    show jX m_X4_partOut 99 0 0 0 [(0, .ref 107), (1, .int a1), (2, .int a3)] [] _ 0 0 _
                    refine x_aloadn (x := 107) rfl rfl ?_
                    refine x_getR (b := 111) 4 6 rfl f_4_22 rfl (congrArg Prod.fst (F.1 107 (4, 18) rfl rfl)) (F.2.1 13702 111 rfl rfl) ?_
                    refine x_iloadn (x := a1) rfl rfl ?_
                    refine x_iloadn (x := a3) rfl rfl ?_
                    refine x_aloadn (x := 107) rfl rfl ?_
                    refine x_getR (b := 32) 4 0 rfl f_4_59 rfl (congrArg Prod.fst (F.1 107 (4, 18) rfl rfl)) (F.2.1 13696 32 rfl rfl) ?_
                    refine y_getI (v := 1) 1 19 rfl f_4_88 rfl (congrArg Prod.fst (F.1 32 (1, 20) rfl rfl)) (F.2.2.1 4115 1 rfl rfl) ?_
                    refine x_inst (N := m_X11_isFresh) (As := [.ref 111, .int a1, .int a3, .int 1]) (st := []) (d' := 98) (mc := 0) (ms := 0) (host := "ParishChest") rfl t_X11_isFresh ⟨Or.inr q_4_91, s_X11_isFresh⟩ rfl (by decide) rfl rfl ⟨by decide, by decide⟩ (jC.of rfl k_X11_isFresh rfl ?_)
                    show jX m_X11_isFresh 98 0 0 0 [(0, .ref 111), (1, .int a1), (2, .int a3), (3, .int 1)] [] _ 0 0 _
                    refine x_aloadn (x := 111) rfl rfl ?_
                    refine y_alen (N := 3) (v := 3) rfl (F.1 111 (100, 3) rfl rfl) (by decide) (by decide) ?_
                    refine x_iconst (v := 3) rfl ki_3 ?_
                    refine x_icge (tgt := 8) rfl rfl (br_t (by decide) ?_)
                    refine x_aloadn (x := 111) rfl rfl ?_
                    refine x_iconst (v := 0) rfl ki_0 ?_
                    refine y_iald (v := 0) (N := 3) 0 rfl (F.1 111 (100, 3) rfl rfl) (jinb_of (by decide)) (by decide) (F.2.2.2.1 111 rfl rfl 0).1 ?_
                    refine x_iloadn (x := a1) rfl rfl ?_
                    refine x_icne (tgt := 33) rfl rfl (ti_ne (show (0 : Int32).toInt = 0 by decide) (show (a1 : Int32).toInt = a1.toInt from rfl) ⟨fun c14 => ?_, fun c14 => ?_⟩)
                    ·
                      refine x_iconst (v := 0) rfl ki_0 ?_
                      refine x_istore (ls' := [(4, .int 0), (0, .ref 111), (1, .int a1), (2, .int a3), (3, .int 1)]) rfl rfl rfl ?_
                      refine x_aloadn (x := 111) rfl rfl ?_
                      refine x_iconst (v := 0) rfl ki_0 ?_
                      refine x_iloadn (x := a1) rfl rfl ?_
                      refine y_iast (N := 3) 0 rfl (F.1 111 (100, 3) rfl rfl) rfl (jinb_of (by decide)) (by decide) ?_
                      refine x_aloadn (x := 111) rfl rfl ?_
                      refine x_iconst (v := 1) rfl ki_1 ?_
                      refine x_iloadn (x := a3) rfl rfl ?_
                      refine y_iast (N := 3) 1 rfl (F.1 111 (100, 3) rfl rfl) rfl (jinb_of (by decide)) (by decide) ?_
                      refine x_aloadn (x := 111) rfl rfl ?_
                      refine x_iconst (v := 2) rfl ki_2 ?_
                      refine x_iloadn (x := 1) rfl rfl ?_
                      refine y_iast (N := 3) 2 rfl (F.1 111 (100, 3) rfl rfl) rfl (jinb_of (by decide)) (by decide) ?_
                      refine x_iload (x := 0) rfl rfl ?_
                      refine x_zret rfl rfl (by first | decide | exact jp_01 _) ?_
                      show jX m_X4_partOut 99 0 0 16 [(0, .ref 107), (1, .int a1), (2, .int a3)] [.int 0] _ 0 0 _
                      refine x_ifeq (tgt := 20) rfl rfl (br_t (by decide) ?_)
                      refine x_aloadn (x := 107) rfl rfl ?_
                      refine x_getR (b := 32) 4 0 rfl f_4_59 rfl (congrArg Prod.fst (F.1 107 (4, 18) rfl rfl)) (F.2.1 13696 32 rfl rfl) ?_
                      refine x_getR (b := 53) 1 10 rfl f_4_95 rfl (congrArg Prod.fst (F.1 32 (1, 20) rfl rfl)) (F.2.1 4106 53 rfl rfl) ?_
                      refine x_iloadn (x := a1) rfl rfl ?_
                      refine x_iconst (v := 2) rfl ki_2 ?_
                      refine x_inv (N := m_X8_at) (As := [.int a1, .int 2]) (b := 53) (st := []) (d' := 98) (mc := 0) (ms := 0) (host := "") 8 rfl t_X8_at ⟨Or.inl q_4_98, i_X8_at.1, i_X8_at.2⟩ ⟨by decide, rfl⟩ (congrArg Prod.fst (F.1 53 (8, 4) rfl rfl)) rfl (by decide) rfl rfl ⟨by decide, by decide⟩ (jC.of rfl k_X8_at rfl ?_)
                      show jX m_X8_at 98 0 0 0 [(0, .ref 53), (1, .int a1), (2, .int 2)] [] _ 0 0 _
                      refine x_iloadn (x := a1) rfl rfl ?_
                      refine x_iflt (tgt := 24) rfl rfl (ti_lt (show (a1 : Int32).toInt = a1.toInt from rfl) (show (0 : Int32).toInt = 0 by decide) (br_f c2 ?_))
                      refine x_iloadn (x := a1) rfl rfl ?_
                      refine x_aloadn (x := 53) rfl rfl ?_
                      refine y_getI (v := 0) 8 3 rfl f_8_7 rfl (congrArg Prod.fst (F.1 53 (8, 4) rfl rfl)) (F.2.2.1 6787 0 rfl rfl) ?_
                      refine x_icge (tgt := 24) rfl rfl (ti_ge (show (a1 : Int32).toInt = a1.toInt from rfl) (show (0 : Int32).toInt = 0 by decide) (br_f c3 ?_))
                      refine x_iloadn (x := 2) rfl rfl ?_
                      refine x_iflt (tgt := 24) rfl rfl (br_f (by decide) ?_)
                      refine x_iloadn (x := 2) rfl rfl ?_
                      refine x_aloadn (x := 53) rfl rfl ?_
                      refine y_getI (v := 4) 8 0 rfl f_8_19 rfl (congrArg Prod.fst (F.1 53 (8, 4) rfl rfl)) (F.2.2.1 6784 4 rfl rfl) ?_
                      refine x_iclt (tgt := 26) rfl rfl (br_t (by decide) ?_)
                      refine x_aloadn (x := 53) rfl rfl ?_
                      refine x_getR (b := 54) 8 2 rfl f_8_25 rfl (congrArg Prod.fst (F.1 53 (8, 4) rfl rfl)) (F.2.1 6786 54 rfl rfl) ?_
                      refine x_iloadn (x := a1) rfl rfl ?_
                      refine x_aloadn (x := 53) rfl rfl ?_
                      refine y_getI (v := 4) 8 0 rfl f_8_19 rfl (congrArg Prod.fst (F.1 53 (8, 4) rfl rfl)) (F.2.2.1 6784 4 rfl rfl) ?_
                      refine x_imul rfl ?_
                      refine x_iloadn (x := 2) rfl rfl ?_
                      refine x_iadd rfl ?_
                      refine y_iald (v := 0) (N := 160) ((a1 * 4) + 2).toNatClampNeg rfl (F.1 54 (100, 160) rfl rfl) (vpi (by omega)) rfl (F.2.2.2.1 54 rfl rfl _).1 ?_
                      refine x_iret rfl rfl ?_
                      show jX m_X4_partOut 99 0 0 32 [(0, .ref 107), (1, .int a1), (2, .int a3)] [.int 0] _ 0 0 _
                      refine x_istoren (ls' := [(3, .int 0), (0, .ref 107), (1, .int a1), (2, .int a3)]) rfl rfl rfl ?_
                      refine x_aloadn (x := 107) rfl rfl ?_
                      refine x_getR (b := 32) 4 0 rfl f_4_59 rfl (congrArg Prod.fst (F.1 107 (4, 18) rfl rfl)) (F.2.1 13696 32 rfl rfl) ?_
                      refine x_getR (b := 53) 1 10 rfl f_4_95 rfl (congrArg Prod.fst (F.1 32 (1, 20) rfl rfl)) (F.2.1 4106 53 rfl rfl) ?_
                      refine x_iloadn (x := a1) rfl rfl ?_
                      refine x_iconst (v := 3) rfl ki_3 ?_
                      refine x_inv (N := m_X8_at) (As := [.int a1, .int 3]) (b := 53) (st := []) (d' := 98) (mc := 0) (ms := 0) (host := "") 8 rfl t_X8_at ⟨Or.inl q_4_98, i_X8_at.1, i_X8_at.2⟩ ⟨by decide, rfl⟩ (congrArg Prod.fst (F.1 53 (8, 4) rfl rfl)) rfl (by decide) rfl rfl ⟨by decide, by decide⟩ (jC.of rfl k_X8_at rfl ?_)
                      show jX m_X8_at 98 0 0 0 [(0, .ref 53), (1, .int a1), (2, .int 3)] [] _ 0 0 _
                      refine x_iloadn (x := a1) rfl rfl ?_
                      refine x_iflt (tgt := 24) rfl rfl (ti_lt (show (a1 : Int32).toInt = a1.toInt from rfl) (show (0 : Int32).toInt = 0 by decide) (br_f c2 ?_))
                      refine x_iloadn (x := a1) rfl rfl ?_
                      refine x_aloadn (x := 53) rfl rfl ?_
                      refine y_getI (v := 0) 8 3 rfl f_8_7 rfl (congrArg Prod.fst (F.1 53 (8, 4) rfl rfl)) (F.2.2.1 6787 0 rfl rfl) ?_
                      refine x_icge (tgt := 24) rfl rfl (ti_ge (show (a1 : Int32).toInt = a1.toInt from rfl) (show (0 : Int32).toInt = 0 by decide) (br_f c3 ?_))
                      refine x_iloadn (x := 3) rfl rfl ?_
                      refine x_iflt (tgt := 24) rfl rfl (br_f (by decide) ?_)
                      refine x_iloadn (x := 3) rfl rfl ?_
                      refine x_aloadn (x := 53) rfl rfl ?_
                      refine y_getI (v := 4) 8 0 rfl f_8_19 rfl (congrArg Prod.fst (F.1 53 (8, 4) rfl rfl)) (F.2.2.1 6784 4 rfl rfl) ?_
                      refine x_iclt (tgt := 26) rfl rfl (br_t (by decide) ?_)
                      refine x_aloadn (x := 53) rfl rfl ?_
                      refine x_getR (b := 54) 8 2 rfl f_8_25 rfl (congrArg Prod.fst (F.1 53 (8, 4) rfl rfl)) (F.2.1 6786 54 rfl rfl) ?_
                      refine x_iloadn (x := a1) rfl rfl ?_
                      refine x_aloadn (x := 53) rfl rfl ?_
                      refine y_getI (v := 4) 8 0 rfl f_8_19 rfl (congrArg Prod.fst (F.1 53 (8, 4) rfl rfl)) (F.2.2.1 6784 4 rfl rfl) ?_
                      refine x_imul rfl ?_
                      refine x_iloadn (x := 3) rfl rfl ?_
                      refine x_iadd rfl ?_
                      refine y_iald (v := 0) (N := 160) ((a1 * 4) + 3).toNatClampNeg rfl (F.1 54 (100, 160) rfl rfl) (vpi (by omega)) rfl (F.2.2.2.1 54 rfl rfl _).1 ?_
                      refine x_iret rfl rfl ?_
                      show jX m_X4_partOut 99 0 0 45 [(3, .int 0), (0, .ref 107), (1, .int a1), (2, .int a3)] [.int 0] _ 0 0 _
                      refine x_istore (ls' := [(4, .int 0), (3, .int 0), (0, .ref 107), (1, .int a1), (2, .int a3)]) rfl rfl rfl ?_
                      refine x_aloadn (x := 107) rfl rfl ?_
                      refine x_getR (b := 98) 4 2 rfl f_4_67 rfl (congrArg Prod.fst (F.1 107 (4, 18) rfl rfl)) (F.2.1 13698 98 rfl rfl) ?_
                      refine x_aloadn (x := 107) rfl rfl ?_
                      refine x_getR (b := 32) 4 0 rfl f_4_59 rfl (congrArg Prod.fst (F.1 107 (4, 18) rfl rfl)) (F.2.1 13696 32 rfl rfl) ?_
                      refine x_getR (b := 53) 1 10 rfl f_4_95 rfl (congrArg Prod.fst (F.1 32 (1, 20) rfl rfl)) (F.2.1 4106 53 rfl rfl) ?_
                      refine x_iloadn (x := a1) rfl rfl ?_
                      refine x_iconst (v := 1) rfl ki_1 ?_
                      refine x_inv (N := m_X8_at) (As := [.int a1, .int 1]) (b := 53) (st := [.ref 98]) (d' := 98) (mc := 0) (ms := 0) (host := "") 8 rfl t_X8_at ⟨Or.inl q_4_98, i_X8_at.1, i_X8_at.2⟩ ⟨by decide, rfl⟩ (congrArg Prod.fst (F.1 53 (8, 4) rfl rfl)) rfl (by decide) rfl rfl ⟨by decide, by decide⟩ (jC.of rfl k_X8_at rfl ?_)
                      show jX m_X8_at 98 0 0 0 [(0, .ref 53), (1, .int a1), (2, .int 1)] [] _ 0 0 _
                      refine x_iloadn (x := a1) rfl rfl ?_
                      refine x_iflt (tgt := 24) rfl rfl (ti_lt (show (a1 : Int32).toInt = a1.toInt from rfl) (show (0 : Int32).toInt = 0 by decide) (br_f c2 ?_))
                      refine x_iloadn (x := a1) rfl rfl ?_
                      refine x_aloadn (x := 53) rfl rfl ?_
                      refine y_getI (v := 0) 8 3 rfl f_8_7 rfl (congrArg Prod.fst (F.1 53 (8, 4) rfl rfl)) (F.2.2.1 6787 0 rfl rfl) ?_
                      refine x_icge (tgt := 24) rfl rfl (ti_ge (show (a1 : Int32).toInt = a1.toInt from rfl) (show (0 : Int32).toInt = 0 by decide) (br_f c3 ?_))
                      refine x_iloadn (x := 1) rfl rfl ?_
                      refine x_iflt (tgt := 24) rfl rfl (br_f (by decide) ?_)
                      refine x_iloadn (x := 1) rfl rfl ?_
                      refine x_aloadn (x := 53) rfl rfl ?_
                      refine y_getI (v := 4) 8 0 rfl f_8_19 rfl (congrArg Prod.fst (F.1 53 (8, 4) rfl rfl)) (F.2.2.1 6784 4 rfl rfl) ?_
                      refine x_iclt (tgt := 26) rfl rfl (br_t (by decide) ?_)
                      refine x_aloadn (x := 53) rfl rfl ?_
                      refine x_getR (b := 54) 8 2 rfl f_8_25 rfl (congrArg Prod.fst (F.1 53 (8, 4) rfl rfl)) (F.2.1 6786 54 rfl rfl) ?_
                      refine x_iloadn (x := a1) rfl rfl ?_
                      refine x_aloadn (x := 53) rfl rfl ?_
                      refine y_getI (v := 4) 8 0 rfl f_8_19 rfl (congrArg Prod.fst (F.1 53 (8, 4) rfl rfl)) (F.2.2.1 6784 4 rfl rfl) ?_
                      refine x_imul rfl ?_
                      refine x_iloadn (x := 1) rfl rfl ?_
                      refine x_iadd rfl ?_
                      refine y_iald (v := 0) (N := 160) ((a1 * 4) + 1).toNatClampNeg rfl (F.1 54 (100, 160) rfl rfl) (vpi (by omega)) rfl (F.2.2.2.1 54 rfl rfl _).1 ?_
                      refine x_iret rfl rfl ?_
                      show jX m_X4_partOut 99 0 0 63 [(4, .int 0), (3, .int 0), (0, .ref 107), (1, .int a1), (2, .int a3)] [.int 0, .ref 98] _ 0 0 _
                      refine x_sipush (v := 366) rfl ks_366 ?_
                      refine y_imul (v := 0) rfl (by decide) ?_
                      refine x_iloadn (x := a3) rfl rfl ?_
                      refine x_inv (N := m_X0_turnTo) (As := [.int 0, .int a3]) (b := 98) (st := []) (d' := 98) (mc := 0) (ms := 0) (host := "") 0 rfl t_X0_turnTo ⟨Or.inl q_4_101, i_X0_turnTo.1, i_X0_turnTo.2⟩ ⟨by decide, rfl⟩ (congrArg Prod.fst (F.1 98 (0, 16) rfl rfl)) rfl (by decide) rfl rfl ⟨by decide, by decide⟩ (jC.of rfl k_X0_turnTo rfl ?_)
                      show jX m_X0_turnTo 98 0 0 0 [(0, .ref 98), (1, .int 0), (2, .int a3)] [] _ 0 0 _
                      refine x_aloadn (x := 98) rfl rfl ?_
                      refine x_iloadn (x := 0) rfl rfl ?_
                      refine x_iloadn (x := a3) rfl rfl ?_
                      refine x_inv (N := m_X0_readLaws) (As := [.int 0, .int a3]) (b := 98) (st := []) (d' := 97) (mc := 0) (ms := 0) (host := "") 0 rfl t_X0_readLaws ⟨Or.inl q_0_65, i_X0_readLaws.1, i_X0_readLaws.2⟩ ⟨by decide, rfl⟩ (congrArg Prod.fst (F.1 98 (0, 16) rfl rfl)) rfl (by decide) rfl rfl ⟨by decide, by decide⟩ (jC.of rfl k_X0_readLaws rfl ?_)
                      show jX m_X0_readLaws 97 0 0 0 [(0, .ref 98), (1, .int 0), (2, .int a3)] [] _ 0 0 _
                      refine x_aloadn (x := 98) rfl rfl ?_
                      refine x_iloadn (x := 0) rfl rfl ?_
                      refine x_putI 0 10 rfl f_0_37 rfl (jfin_no TX0 RX0 16 rfl rfl) (congrArg Prod.fst (F.1 98 (0, 16) rfl rfl)) rfl ?_
                      refine x_aloadn (x := 98) rfl rfl ?_
                      refine x_iloadn (x := a3) rfl rfl ?_
                      refine x_putI 0 11 rfl f_0_41 rfl (jfin_no TX0 RX0 16 rfl rfl) (congrArg Prod.fst (F.1 98 (0, 16) rfl rfl)) rfl ?_
                      refine x_aloadn (x := 98) rfl rfl ?_
                      refine x_getR (b := 101) 0 4 rfl f_0_18 rfl (congrArg Prod.fst (F.1 98 (0, 16) rfl rfl)) (F.2.1 12548 101 rfl rfl) ?_
                      refine x_aloadn (x := 98) rfl rfl ?_
                      refine y_getI (v := 0) 0 10 rfl f_0_37 rfl (congrArg Prod.fst (F.1 98 (0, 16) rfl rfl)) rfl ?_
                      refine x_aloadn (x := 98) rfl rfl ?_
                      refine y_getI (v := a3) 0 11 rfl f_0_41 rfl (congrArg Prod.fst (F.1 98 (0, 16) rfl rfl)) rfl ?_
                      refine x_aloadn (x := 98) rfl rfl ?_
                      refine x_getR (b := 32) 0 0 rfl f_0_57 rfl (congrArg Prod.fst (F.1 98 (0, 16) rfl rfl)) (F.2.1 12544 32 rfl rfl) ?_
                      refine y_getI (v := 1) 1 19 rfl f_0_81 rfl (congrArg Prod.fst (F.1 32 (1, 20) rfl rfl)) (F.2.2.1 4115 1 rfl rfl) ?_
                      refine x_inst (N := m_X11_isFresh) (As := [.ref 101, .int 0, .int a3, .int 1]) (st := []) (d' := 96) (mc := 0) (ms := 0) (host := "ParishChest") rfl t_X11_isFresh ⟨Or.inr q_0_84, s_X11_isFresh⟩ rfl (by decide) rfl rfl ⟨by decide, by decide⟩ (jC.of rfl k_X11_isFresh rfl ?_)
                      show jX m_X11_isFresh 96 0 0 0 [(0, .ref 101), (1, .int 0), (2, .int a3), (3, .int 1)] [] _ 0 0 _
                      refine x_aloadn (x := 101) rfl rfl ?_
                      refine y_alen (N := 3) (v := 3) rfl (F.1 101 (100, 3) rfl rfl) (by decide) (by decide) ?_
                      refine x_iconst (v := 3) rfl ki_3 ?_
                      refine x_icge (tgt := 8) rfl rfl (br_t (by decide) ?_)
                      refine x_aloadn (x := 101) rfl rfl ?_
                      refine x_iconst (v := 0) rfl ki_0 ?_
                      refine y_iald (v := 0) (N := 3) 0 rfl (F.1 101 (100, 3) rfl rfl) (jinb_of (by decide)) (by decide) (F.2.2.2.1 101 rfl rfl 0).1 ?_
                      refine x_iloadn (x := 0) rfl rfl ?_
                      refine x_icne (tgt := 33) rfl rfl (bn_f (by decide) ?_)
                      refine x_aloadn (x := 101) rfl rfl ?_
                      refine x_iconst (v := 1) rfl ki_1 ?_
                      refine y_iald (v := 0) (N := 3) 1 rfl (F.1 101 (100, 3) rfl rfl) (jinb_of (by decide)) (by decide) (F.2.2.2.1 101 rfl rfl 1).1 ?_
                      refine x_iloadn (x := a3) rfl rfl ?_
                      refine x_icne (tgt := 33) rfl rfl (ti_ne (show (0 : Int32).toInt = 0 by decide) (show (a3 : Int32).toInt = a3.toInt from rfl) (bn_f c12 ?_))
                      refine x_aloadn (x := 101) rfl rfl ?_
                      refine x_iconst (v := 2) rfl ki_2 ?_
                      refine y_iald (v := 0) (N := 3) 2 rfl (F.1 101 (100, 3) rfl rfl) (jinb_of (by decide)) (by decide) (F.2.2.2.1 101 rfl rfl 2).1 ?_
                      refine x_iloadn (x := 1) rfl rfl ?_
                      refine x_icne (tgt := 33) rfl rfl (bn_t (by decide) ?_)
                      refine x_iconst (v := 0) rfl ki_0 ?_
                      refine x_istore (ls' := [(4, .int 0), (0, .ref 101), (1, .int 0), (2, .int a3), (3, .int 1)]) rfl rfl rfl ?_
                      refine x_aloadn (x := 101) rfl rfl ?_
                      refine x_iconst (v := 0) rfl ki_0 ?_
                      refine x_iloadn (x := 0) rfl rfl ?_
                      refine y_iast (N := 3) 0 rfl (F.1 101 (100, 3) rfl rfl) rfl (jinb_of (by decide)) (by decide) ?_
                      refine x_aloadn (x := 101) rfl rfl ?_
                      refine x_iconst (v := 1) rfl ki_1 ?_
                      refine x_iloadn (x := a3) rfl rfl ?_
                      refine y_iast (N := 3) 1 rfl (F.1 101 (100, 3) rfl rfl) rfl (jinb_of (by decide)) (by decide) ?_
                      refine x_aloadn (x := 101) rfl rfl ?_
                      refine x_iconst (v := 2) rfl ki_2 ?_
                      refine x_iloadn (x := 1) rfl rfl ?_
                      refine y_iast (N := 3) 2 rfl (F.1 101 (100, 3) rfl rfl) rfl (jinb_of (by decide)) (by decide) ?_
                      refine x_iload (x := 0) rfl rfl ?_
                      refine x_zret rfl rfl (by first | decide | exact jp_01 _) ?_
                      show jX m_X0_readLaws 97 0 0 32 [(0, .ref 98), (1, .int 0), (2, .int a3)] [.int 0] _ 0 0 _
                      refine x_ifeq (tgt := 36) rfl rfl (br_t (by decide) ?_)
                      refine x_bipush (v := 30) rfl kb_30 ?_
                      refine x_aloadn (x := 98) rfl rfl ?_
                      refine x_getR (b := 32) 0 0 rfl f_0_57 rfl (congrArg Prod.fst (F.1 98 (0, 16) rfl rfl)) (F.2.1 12544 32 rfl rfl) ?_
                      refine y_getI (v := 0) 1 18 rfl f_0_72 rfl (congrArg Prod.fst (F.1 32 (1, 20) rfl rfl)) (F.2.2.1 4114 0 rfl rfl) ?_
                      refine x_inst (N := m_J9_min_7cf53) (As := [.int 30, .int 0]) (st := []) (d' := 96) (mc := 0) (ms := 0) (host := "") rfl t_J9_min_7cf53 ⟨Or.inl q_0_88, s_J9_min_7cf53⟩ rfl (by decide) rfl rfl ⟨by decide, by decide⟩ (jC.of rfl k_J9_min_7cf53 rfl ?_)
                      show jX m_J9_min_7cf53 96 0 0 0 [(0, .int 30), (1, .int 0)] [] _ 0 0 _
                      refine x_iloadn (x := 30) rfl rfl ?_
                      refine x_iloadn (x := 0) rfl rfl ?_
                      refine x_icgt (tgt := 9) rfl rfl (br_t (by decide) ?_)
                      refine x_iloadn (x := 0) rfl rfl ?_
                      refine x_iret rfl rfl ?_
                      show jX m_X0_readLaws 97 0 0 48 [(0, .ref 98), (1, .int 0), (2, .int a3)] [.int 0] _ 0 0 _
                      refine x_istoren (ls' := [(3, .int 0), (0, .ref 98), (1, .int 0), (2, .int a3)]) rfl rfl rfl ?_
                      refine x_iconst (v := 0) rfl ki_0 ?_
                      refine x_istore (ls' := [(4, .int 0), (3, .int 0), (0, .ref 98), (1, .int 0), (2, .int a3)]) rfl rfl rfl ?_
                      refine x_iload (x := 0) rfl rfl ?_
                      refine x_iloadn (x := 0) rfl rfl ?_
                      refine x_icge (tgt := 80) rfl rfl (br_t (by decide) ?_)
                      refine x_iloadn (x := 0) rfl rfl ?_
                      refine x_iconst (v := 1) rfl ki_1 ?_
                      refine y_isub (v := (-1)) rfl (by decide) ?_
                      refine x_istore (ls' := [(4, .int (-1)), (3, .int 0), (0, .ref 98), (1, .int 0), (2, .int a3)]) rfl rfl rfl ?_
                      refine x_iload (x := (-1)) rfl rfl ?_
                      refine x_iflt (tgt := 167) rfl rfl (br_t (by decide) ?_)
                      refine x_vret rfl rfl ?_
                      show jX m_X0_turnTo 98 0 0 6 [(0, .ref 98), (1, .int 0), (2, .int a3)] [] _ 0 0 _
                      refine x_aloadn (x := 98) rfl rfl ?_
                      refine x_iloadn (x := 0) rfl rfl ?_
                      refine x_iloadn (x := a3) rfl rfl ?_
                      refine x_inv (N := m_X0_readHouses) (As := [.int 0, .int a3]) (b := 98) (st := []) (d' := 97) (mc := 0) (ms := 0) (host := "") 0 rfl t_X0_readHouses ⟨Or.inl q_0_69, i_X0_readHouses.1, i_X0_readHouses.2⟩ ⟨by decide, rfl⟩ (congrArg Prod.fst (F.1 98 (0, 16) rfl rfl)) rfl (by decide) rfl rfl ⟨by decide, by decide⟩ (jC.of rfl k_X0_readHouses rfl ?_)
                      show jX m_X0_readHouses 97 0 0 0 [(0, .ref 98), (1, .int 0), (2, .int a3)] [] _ 0 0 _
                      refine x_aloadn (x := 98) rfl rfl ?_
                      refine x_iloadn (x := 0) rfl rfl ?_
                      refine x_putI 0 10 rfl f_0_37 rfl (jfin_no TX0 RX0 16 rfl rfl) (congrArg Prod.fst (F.1 98 (0, 16) rfl rfl)) rfl ?_
                      refine x_aloadn (x := 98) rfl rfl ?_
                      refine x_iloadn (x := a3) rfl rfl ?_
                      refine x_putI 0 11 rfl f_0_41 rfl (jfin_no TX0 RX0 16 rfl rfl) (congrArg Prod.fst (F.1 98 (0, 16) rfl rfl)) rfl ?_
                      refine x_aloadn (x := 98) rfl rfl ?_
                      refine x_getR (b := 105) 0 8 rfl f_0_30 rfl (congrArg Prod.fst (F.1 98 (0, 16) rfl rfl)) (F.2.1 12552 105 rfl rfl) ?_
                      refine x_aloadn (x := 98) rfl rfl ?_
                      refine y_getI (v := 0) 0 10 rfl f_0_37 rfl (congrArg Prod.fst (F.1 98 (0, 16) rfl rfl)) rfl ?_
                      refine x_aloadn (x := 98) rfl rfl ?_
                      refine y_getI (v := a3) 0 11 rfl f_0_41 rfl (congrArg Prod.fst (F.1 98 (0, 16) rfl rfl)) rfl ?_
                      refine x_aloadn (x := 98) rfl rfl ?_
                      refine x_getR (b := 32) 0 0 rfl f_0_57 rfl (congrArg Prod.fst (F.1 98 (0, 16) rfl rfl)) (F.2.1 12544 32 rfl rfl) ?_
                      refine y_getI (v := 1) 1 19 rfl f_0_81 rfl (congrArg Prod.fst (F.1 32 (1, 20) rfl rfl)) (F.2.2.1 4115 1 rfl rfl) ?_
                      refine x_inst (N := m_X11_isFresh) (As := [.ref 105, .int 0, .int a3, .int 1]) (st := []) (d' := 96) (mc := 0) (ms := 0) (host := "ParishChest") rfl t_X11_isFresh ⟨Or.inr q_0_84, s_X11_isFresh⟩ rfl (by decide) rfl rfl ⟨by decide, by decide⟩ (jC.of rfl k_X11_isFresh rfl ?_)
                      show jX m_X11_isFresh 96 0 0 0 [(0, .ref 105), (1, .int 0), (2, .int a3), (3, .int 1)] [] _ 0 0 _
                      refine x_aloadn (x := 105) rfl rfl ?_
                      refine y_alen (N := 3) (v := 3) rfl (F.1 105 (100, 3) rfl rfl) (by decide) (by decide) ?_
                      refine x_iconst (v := 3) rfl ki_3 ?_
                      refine x_icge (tgt := 8) rfl rfl (br_t (by decide) ?_)
                      refine x_aloadn (x := 105) rfl rfl ?_
                      refine x_iconst (v := 0) rfl ki_0 ?_
                      refine y_iald (v := 0) (N := 3) 0 rfl (F.1 105 (100, 3) rfl rfl) (jinb_of (by decide)) (by decide) (F.2.2.2.1 105 rfl rfl 0).1 ?_
                      refine x_iloadn (x := 0) rfl rfl ?_
                      refine x_icne (tgt := 33) rfl rfl (bn_f (by decide) ?_)
                      refine x_aloadn (x := 105) rfl rfl ?_
                      refine x_iconst (v := 1) rfl ki_1 ?_
                      refine y_iald (v := 0) (N := 3) 1 rfl (F.1 105 (100, 3) rfl rfl) (jinb_of (by decide)) (by decide) (F.2.2.2.1 105 rfl rfl 1).1 ?_
                      refine x_iloadn (x := a3) rfl rfl ?_
                      refine x_icne (tgt := 33) rfl rfl (ti_ne (show (0 : Int32).toInt = 0 by decide) (show (a3 : Int32).toInt = a3.toInt from rfl) (bn_f c12 ?_))
                      refine x_aloadn (x := 105) rfl rfl ?_
                      refine x_iconst (v := 2) rfl ki_2 ?_
                      refine y_iald (v := 0) (N := 3) 2 rfl (F.1 105 (100, 3) rfl rfl) (jinb_of (by decide)) (by decide) (F.2.2.2.1 105 rfl rfl 2).1 ?_
                      refine x_iloadn (x := 1) rfl rfl ?_
                      refine x_icne (tgt := 33) rfl rfl (bn_t (by decide) ?_)
                      refine x_iconst (v := 0) rfl ki_0 ?_
                      refine x_istore (ls' := [(4, .int 0), (0, .ref 105), (1, .int 0), (2, .int a3), (3, .int 1)]) rfl rfl rfl ?_
                      refine x_aloadn (x := 105) rfl rfl ?_
                      refine x_iconst (v := 0) rfl ki_0 ?_
                      refine x_iloadn (x := 0) rfl rfl ?_
                      refine y_iast (N := 3) 0 rfl (F.1 105 (100, 3) rfl rfl) rfl (jinb_of (by decide)) (by decide) ?_
                      refine x_aloadn (x := 105) rfl rfl ?_
                      refine x_iconst (v := 1) rfl ki_1 ?_
                      refine x_iloadn (x := a3) rfl rfl ?_
                      refine y_iast (N := 3) 1 rfl (F.1 105 (100, 3) rfl rfl) rfl (jinb_of (by decide)) (by decide) ?_
                      refine x_aloadn (x := 105) rfl rfl ?_
                      refine x_iconst (v := 2) rfl ki_2 ?_
                      refine x_iloadn (x := 1) rfl rfl ?_
                      refine y_iast (N := 3) 2 rfl (F.1 105 (100, 3) rfl rfl) rfl (jinb_of (by decide)) (by decide) ?_
                      refine x_iload (x := 0) rfl rfl ?_
                      refine x_zret rfl rfl (by first | decide | exact jp_01 _) ?_
                      show jX m_X0_readHouses 97 0 0 32 [(0, .ref 98), (1, .int 0), (2, .int a3)] [.int 0] _ 0 0 _
                      refine x_ifeq (tgt := 36) rfl rfl (br_t (by decide) ?_)
                      refine x_bipush (v := 40) rfl kb_40 ?_
                      refine x_aloadn (x := 98) rfl rfl ?_
                      refine x_getR (b := 32) 0 0 rfl f_0_57 rfl (congrArg Prod.fst (F.1 98 (0, 16) rfl rfl)) (F.2.1 12544 32 rfl rfl) ?_
                      refine x_getR (b := 49) 1 8 rfl f_0_120 rfl (congrArg Prod.fst (F.1 32 (1, 20) rfl rfl)) (F.2.1 4104 49 rfl rfl) ?_
                      refine y_getI (v := 0) 8 3 rfl f_0_124 rfl (congrArg Prod.fst (F.1 49 (8, 4) rfl rfl)) (F.2.2.1 6275 0 rfl rfl) ?_
                      refine x_inst (N := m_J9_min_7cf53) (As := [.int 40, .int 0]) (st := []) (d' := 96) (mc := 0) (ms := 0) (host := "") rfl t_J9_min_7cf53 ⟨Or.inl q_0_88, s_J9_min_7cf53⟩ rfl (by decide) rfl rfl ⟨by decide, by decide⟩ (jC.of rfl k_J9_min_7cf53 rfl ?_)
                      show jX m_J9_min_7cf53 96 0 0 0 [(0, .int 40), (1, .int 0)] [] _ 0 0 _
                      refine x_iloadn (x := 40) rfl rfl ?_
                      refine x_iloadn (x := 0) rfl rfl ?_
                      refine x_icgt (tgt := 9) rfl rfl (br_t (by decide) ?_)
                      refine x_iloadn (x := 0) rfl rfl ?_
                      refine x_iret rfl rfl ?_
                      show jX m_X0_readHouses 97 0 0 51 [(0, .ref 98), (1, .int 0), (2, .int a3)] [.int 0] _ 0 0 _
                      refine x_istoren (ls' := [(3, .int 0), (0, .ref 98), (1, .int 0), (2, .int a3)]) rfl rfl rfl ?_
                      refine x_aloadn (x := 98) rfl rfl ?_
                      refine x_aloadn (x := 98) rfl rfl ?_
                      refine x_getR (b := 32) 0 0 rfl f_0_57 rfl (congrArg Prod.fst (F.1 98 (0, 16) rfl rfl)) (F.2.1 12544 32 rfl rfl) ?_
                      refine x_getR (b := 47) 1 7 rfl f_0_129 rfl (congrArg Prod.fst (F.1 32 (1, 20) rfl rfl)) (F.2.1 4103 47 rfl rfl) ?_
                      refine x_iconst (v := 3) rfl ki_3 ?_
                      refine x_aloadn (x := 98) rfl rfl ?_
                      refine x_getR (b := 102) 0 5 rfl f_0_21 rfl (congrArg Prod.fst (F.1 98 (0, 16) rfl rfl)) (F.2.1 12549 102 rfl rfl) ?_
                      refine x_iconst (v := 0) rfl ki_0 ?_
                      refine x_inv (N := m_X0_readLatest) (As := [.ref 47, .int 3, .ref 102, .int 0]) (b := 98) (st := []) (d' := 96) (mc := 0) (ms := 0) (host := "") 0 rfl t_X0_readLatest ⟨Or.inl q_0_132, i_X0_readLatest.1, i_X0_readLatest.2⟩ ⟨by decide, rfl⟩ (congrArg Prod.fst (F.1 98 (0, 16) rfl rfl)) rfl (by decide) rfl rfl ⟨by decide, by decide⟩ (jC.of rfl k_X0_readLatest rfl ?_)
                      show jX m_X0_readLatest 96 0 0 0 [(0, .ref 98), (1, .ref 47), (2, .int 3), (3, .ref 102), (4, .int 0)] [] _ 0 0 _
                      refine x_iconst (v := 0) rfl ki_0 ?_
                      refine x_istore (ls' := [(5, .int 0), (0, .ref 98), (1, .ref 47), (2, .int 3), (3, .ref 102), (4, .int 0)]) rfl rfl rfl ?_
                      refine x_iload (x := 0) rfl rfl ?_
                      refine x_bipush (v := 40) rfl kb_40 ?_
                      refine x_icge (tgt := 52) rfl rfl (br_f (by decide) ?_)
                      refine x_iload (x := 0) rfl rfl ?_
                      refine x_aloadn (x := 98) rfl rfl ?_
                      refine x_getR (b := 32) 0 0 rfl f_0_57 rfl (congrArg Prod.fst (F.1 98 (0, 16) rfl rfl)) (F.2.1 12544 32 rfl rfl) ?_
                      refine x_getR (b := 49) 1 8 rfl f_0_120 rfl (congrArg Prod.fst (F.1 32 (1, 20) rfl rfl)) (F.2.1 4104 49 rfl rfl) ?_
                      refine y_getI (v := 0) 8 3 rfl f_0_124 rfl (congrArg Prod.fst (F.1 49 (8, 4) rfl rfl)) (F.2.2.1 6275 0 rfl rfl) ?_
                      refine x_icge (tgt := 52) rfl rfl (br_t (by decide) ?_)
                      refine x_iconst (v := 0) rfl ki_0 ?_
                      refine x_istore (ls' := [(5, .int 0), (0, .ref 98), (1, .ref 47), (2, .int 3), (3, .ref 102), (4, .int 0)]) rfl rfl rfl ?_
                      refine x_iload (x := 0) rfl rfl ?_
                      refine x_aloadn (x := 47) rfl rfl ?_
                      refine y_getI (v := 0) 8 3 rfl f_0_124 rfl (congrArg Prod.fst (F.1 47 (8, 4) rfl rfl)) (F.2.2.1 6019 0 rfl rfl) ?_
                      refine x_icge (tgt := 161) rfl rfl (br_t (by decide) ?_)
                      refine x_vret rfl rfl ?_
                      show jX m_X0_readHouses 97 0 0 69 [(3, .int 0), (0, .ref 98), (1, .int 0), (2, .int a3)] [] _ 0 0 _
                      refine x_aloadn (x := 98) rfl rfl ?_
                      refine x_aloadn (x := 98) rfl rfl ?_
                      refine x_getR (b := 32) 0 0 rfl f_0_57 rfl (congrArg Prod.fst (F.1 98 (0, 16) rfl rfl)) (F.2.1 12544 32 rfl rfl) ?_
                      refine x_getR (b := 51) 1 9 rfl f_0_136 rfl (congrArg Prod.fst (F.1 32 (1, 20) rfl rfl)) (F.2.1 4105 51 rfl rfl) ?_
                      refine x_iconst (v := 3) rfl ki_3 ?_
                      refine x_aloadn (x := 98) rfl rfl ?_
                      refine x_getR (b := 103) 0 6 rfl f_0_24 rfl (congrArg Prod.fst (F.1 98 (0, 16) rfl rfl)) (F.2.1 12550 103 rfl rfl) ?_
                      refine x_iconst (v := (-1)) rfl ki_m1 ?_
                      refine x_inv (N := m_X0_readLatest) (As := [.ref 51, .int 3, .ref 103, .int (-1)]) (b := 98) (st := []) (d' := 96) (mc := 0) (ms := 0) (host := "") 0 rfl t_X0_readLatest ⟨Or.inl q_0_132, i_X0_readLatest.1, i_X0_readLatest.2⟩ ⟨by decide, rfl⟩ (congrArg Prod.fst (F.1 98 (0, 16) rfl rfl)) rfl (by decide) rfl rfl ⟨by decide, by decide⟩ (jC.of rfl k_X0_readLatest rfl ?_)
                      show jX m_X0_readLatest 96 0 0 0 [(0, .ref 98), (1, .ref 51), (2, .int 3), (3, .ref 103), (4, .int (-1))] [] _ 0 0 _
                      refine x_iconst (v := 0) rfl ki_0 ?_
                      refine x_istore (ls' := [(5, .int 0), (0, .ref 98), (1, .ref 51), (2, .int 3), (3, .ref 103), (4, .int (-1))]) rfl rfl rfl ?_
                      refine x_iload (x := 0) rfl rfl ?_
                      refine x_bipush (v := 40) rfl kb_40 ?_
                      refine x_icge (tgt := 52) rfl rfl (br_f (by decide) ?_)
                      refine x_iload (x := 0) rfl rfl ?_
                      refine x_aloadn (x := 98) rfl rfl ?_
                      refine x_getR (b := 32) 0 0 rfl f_0_57 rfl (congrArg Prod.fst (F.1 98 (0, 16) rfl rfl)) (F.2.1 12544 32 rfl rfl) ?_
                      refine x_getR (b := 49) 1 8 rfl f_0_120 rfl (congrArg Prod.fst (F.1 32 (1, 20) rfl rfl)) (F.2.1 4104 49 rfl rfl) ?_
                      refine y_getI (v := 0) 8 3 rfl f_0_124 rfl (congrArg Prod.fst (F.1 49 (8, 4) rfl rfl)) (F.2.2.1 6275 0 rfl rfl) ?_
                      refine x_icge (tgt := 52) rfl rfl (br_t (by decide) ?_)
                      refine x_iconst (v := 0) rfl ki_0 ?_
                      refine x_istore (ls' := [(5, .int 0), (0, .ref 98), (1, .ref 51), (2, .int 3), (3, .ref 103), (4, .int (-1))]) rfl rfl rfl ?_
                      refine x_iload (x := 0) rfl rfl ?_
                      refine x_aloadn (x := 51) rfl rfl ?_
                      refine y_getI (v := 0) 8 3 rfl f_0_124 rfl (congrArg Prod.fst (F.1 51 (8, 4) rfl rfl)) (F.2.2.1 6531 0 rfl rfl) ?_
                      refine x_icge (tgt := 161) rfl rfl (br_t (by decide) ?_)
                      refine x_vret rfl rfl ?_
                      show jX m_X0_readHouses 97 0 0 86 [(3, .int 0), (0, .ref 98), (1, .int 0), (2, .int a3)] [] _ 0 0 _
                      refine x_iconst (v := 0) rfl ki_0 ?_
                      refine x_istore (ls' := [(4, .int 0), (3, .int 0), (0, .ref 98), (1, .int 0), (2, .int a3)]) rfl rfl rfl ?_
                      refine x_iload (x := 0) rfl rfl ?_
                      refine x_iloadn (x := 0) rfl rfl ?_
                      refine x_icge (tgt := 172) rfl rfl (br_t (by decide) ?_)
                      refine x_vret rfl rfl ?_
                      show jX m_X0_turnTo 98 0 0 12 [(0, .ref 98), (1, .int 0), (2, .int a3)] [] _ 0 0 _
                      refine x_vret rfl rfl ?_
                      show jX m_X4_partOut 99 0 0 71 [(4, .int 0), (3, .int 0), (0, .ref 107), (1, .int a1), (2, .int a3)] [] _ 0 0 _
                      refine x_lconst (v := 0) rfl kl_0 ?_
                      refine x_lstore (ls' := [(5, .long 0), (4, .int 0), (3, .int 0), (0, .ref 107), (1, .int a1), (2, .int a3)]) rfl rfl rfl ?_
                      refine x_iconst (v := 0) rfl ki_0 ?_
                      refine x_istore (ls' := [(7, .int 0), (5, .long 0), (4, .int 0), (3, .int 0), (0, .ref 107), (1, .int a1), (2, .int a3)]) rfl rfl rfl ?_
                      refine x_iload (x := 0) rfl rfl ?_
                      refine x_aloadn (x := 107) rfl rfl ?_
                      refine x_inv (N := m_X4_houses) (As := []) (b := 107) (st := [.int 0]) (d' := 98) (mc := 0) (ms := 0) (host := "") 4 rfl t_X4_houses ⟨Or.inl q_4_107, i_X4_houses.1, i_X4_houses.2⟩ ⟨by decide, rfl⟩ (congrArg Prod.fst (F.1 107 (4, 18) rfl rfl)) rfl (by decide) rfl rfl ⟨by decide, by decide⟩ (jC.of rfl k_X4_houses rfl ?_)
                      show jX m_X4_houses 98 0 0 0 [(0, .ref 107)] [] _ 0 0 _
                      refine x_bipush (v := 40) rfl kb_40 ?_
                      refine x_aloadn (x := 107) rfl rfl ?_
                      refine x_getR (b := 32) 4 0 rfl f_4_59 rfl (congrArg Prod.fst (F.1 107 (4, 18) rfl rfl)) (F.2.1 13696 32 rfl rfl) ?_
                      refine x_getR (b := 49) 1 8 rfl f_4_71 rfl (congrArg Prod.fst (F.1 32 (1, 20) rfl rfl)) (F.2.1 4104 49 rfl rfl) ?_
                      refine y_getI (v := 0) 8 3 rfl f_4_77 rfl (congrArg Prod.fst (F.1 49 (8, 4) rfl rfl)) (F.2.2.1 6275 0 rfl rfl) ?_
                      refine x_inst (N := m_J9_min_7cf53) (As := [.int 40, .int 0]) (st := []) (d' := 97) (mc := 0) (ms := 0) (host := "") rfl t_J9_min_7cf53 ⟨Or.inl q_4_82, s_J9_min_7cf53⟩ rfl (by decide) rfl rfl ⟨by decide, by decide⟩ (jC.of rfl k_J9_min_7cf53 rfl ?_)
                      show jX m_J9_min_7cf53 97 0 0 0 [(0, .int 40), (1, .int 0)] [] _ 0 0 _
                      refine x_iloadn (x := 40) rfl rfl ?_
                      refine x_iloadn (x := 0) rfl rfl ?_
                      refine x_icgt (tgt := 9) rfl rfl (br_t (by decide) ?_)
                      refine x_iloadn (x := 0) rfl rfl ?_
                      refine x_iret rfl rfl ?_
                      show jX m_X4_houses 98 0 0 15 [(0, .ref 107)] [.int 0] _ 0 0 _
                      refine x_iret rfl rfl ?_
                      show jX m_X4_partOut 99 0 0 83 [(7, .int 0), (5, .long 0), (4, .int 0), (3, .int 0), (0, .ref 107), (1, .int a1), (2, .int a3)] [.int 0, .int 0] _ 0 0 _
                      refine x_icge (tgt := 187) rfl rfl (br_t (by decide) ?_)
                      refine x_aloadn (x := 107) rfl rfl ?_
                      refine x_iload (x := 0) rfl rfl ?_
                      refine x_lload (x := 0) rfl rfl ?_
                      refine x_inv (N := m_X4_share) (As := [.int 0, .long 0]) (b := 107) (st := []) (d' := 98) (mc := 0) (ms := 0) (host := "") 4 rfl t_X4_share ⟨Or.inl q_4_123, i_X4_share.1, i_X4_share.2⟩ ⟨by decide, rfl⟩ (congrArg Prod.fst (F.1 107 (4, 18) rfl rfl)) rfl (by decide) rfl rfl ⟨by decide, by decide⟩ (jC.of rfl k_X4_share rfl ?_)
                      show jX m_X4_share 98 0 0 0 [(0, .ref 107), (1, .int 0), (2, .long 0)] [] _ 0 0 _
                      refine x_lloadn (x := 0) rfl rfl ?_
                      refine x_lconst (v := 0) rfl kl_0 ?_
                      refine y_lcmp (v := 0) rfl (by decide) ?_
                      refine x_ifne (tgt := 10) rfl rfl (bn_f (by decide) ?_)
                      refine x_lconst (v := 0) rfl kl_0 ?_
                      refine x_goto (tgt := 12) rfl rfl ?_
                      refine x_lstore (ls' := [(4, .long 0), (0, .ref 107), (1, .int 0), (2, .long 0)]) rfl rfl rfl ?_
                      refine x_iconst (v := 0) rfl ki_0 ?_
                      refine x_istore (ls' := [(6, .int 0), (4, .long 0), (0, .ref 107), (1, .int 0), (2, .long 0)]) rfl rfl rfl ?_
                      refine x_iload (x := 0) rfl rfl ?_
                      refine x_aloadn (x := 107) rfl rfl ?_
                      refine x_inv (N := m_X4_houses) (As := []) (b := 107) (st := [.int 0]) (d' := 97) (mc := 0) (ms := 0) (host := "") 4 rfl t_X4_houses ⟨Or.inl q_4_107, i_X4_houses.1, i_X4_houses.2⟩ ⟨by decide, rfl⟩ (congrArg Prod.fst (F.1 107 (4, 18) rfl rfl)) rfl (by decide) rfl rfl ⟨by decide, by decide⟩ (jC.of rfl k_X4_houses rfl ?_)
                      show jX m_X4_houses 97 0 0 0 [(0, .ref 107)] [] _ 0 0 _
                      refine x_bipush (v := 40) rfl kb_40 ?_
                      refine x_aloadn (x := 107) rfl rfl ?_
                      refine x_getR (b := 32) 4 0 rfl f_4_59 rfl (congrArg Prod.fst (F.1 107 (4, 18) rfl rfl)) (F.2.1 13696 32 rfl rfl) ?_
                      refine x_getR (b := 49) 1 8 rfl f_4_71 rfl (congrArg Prod.fst (F.1 32 (1, 20) rfl rfl)) (F.2.1 4104 49 rfl rfl) ?_
                      refine y_getI (v := 0) 8 3 rfl f_4_77 rfl (congrArg Prod.fst (F.1 49 (8, 4) rfl rfl)) (F.2.2.1 6275 0 rfl rfl) ?_
                      refine x_inst (N := m_J9_min_7cf53) (As := [.int 40, .int 0]) (st := []) (d' := 96) (mc := 0) (ms := 0) (host := "") rfl t_J9_min_7cf53 ⟨Or.inl q_4_82, s_J9_min_7cf53⟩ rfl (by decide) rfl rfl ⟨by decide, by decide⟩ (jC.of rfl k_J9_min_7cf53 rfl ?_)
                      show jX m_J9_min_7cf53 96 0 0 0 [(0, .int 40), (1, .int 0)] [] _ 0 0 _
                      refine x_iloadn (x := 40) rfl rfl ?_
                      refine x_iloadn (x := 0) rfl rfl ?_
                      refine x_icgt (tgt := 9) rfl rfl (br_t (by decide) ?_)
                      refine x_iloadn (x := 0) rfl rfl ?_
                      refine x_iret rfl rfl ?_
                      show jX m_X4_houses 97 0 0 15 [(0, .ref 107)] [.int 0] _ 0 0 _
                      refine x_iret rfl rfl ?_
                      show jX m_X4_share 98 0 0 23 [(6, .int 0), (4, .long 0), (0, .ref 107), (1, .int 0), (2, .long 0)] [.int 0, .int 0] _ 0 0 _
                      refine x_icge (tgt := 113) rfl rfl (br_t (by decide) ?_)
                      refine x_iconst (v := 0) rfl ki_0 ?_
                      refine x_istore (ls' := [(6, .int 0), (4, .long 0), (0, .ref 107), (1, .int 0), (2, .long 0)]) rfl rfl rfl ?_
                      refine x_iload (x := 0) rfl rfl ?_
                      refine x_bipush (v := 40) rfl kb_40 ?_
                      refine x_icge (tgt := 175) rfl rfl (br_f (by decide) ?_)
                      refine x_lload (x := 0) rfl rfl ?_
                      refine x_lconst (v := 0) rfl kl_0 ?_
                      refine y_lcmp (v := 0) rfl (by decide) ?_
                      refine x_ifle (tgt := 175) rfl rfl (br_t (by decide) ?_)
                      refine x_vret rfl rfl ?_
                      show jX m_X4_partOut 99 0 0 195 [(7, .int 0), (5, .long 0), (4, .int 0), (3, .int 0), (0, .ref 107), (1, .int a1), (2, .int a3)] [] _ 0 0 _
                      refine x_iconst (v := 0) rfl ki_0 ?_
                      refine x_istore (ls' := [(7, .int 0), (5, .long 0), (4, .int 0), (3, .int 0), (0, .ref 107), (1, .int a1), (2, .int a3)]) rfl rfl rfl ?_
                      refine x_iload (x := 0) rfl rfl ?_
                      refine x_aloadn (x := 107) rfl rfl ?_
                      refine x_inv (N := m_X4_houses) (As := []) (b := 107) (st := [.int 0]) (d' := 98) (mc := 0) (ms := 0) (host := "") 4 rfl t_X4_houses ⟨Or.inl q_4_107, i_X4_houses.1, i_X4_houses.2⟩ ⟨by decide, rfl⟩ (congrArg Prod.fst (F.1 107 (4, 18) rfl rfl)) rfl (by decide) rfl rfl ⟨by decide, by decide⟩ (jC.of rfl k_X4_houses rfl ?_)
                      show jX m_X4_houses 98 0 0 0 [(0, .ref 107)] [] _ 0 0 _
                      refine x_bipush (v := 40) rfl kb_40 ?_
                      refine x_aloadn (x := 107) rfl rfl ?_
                      refine x_getR (b := 32) 4 0 rfl f_4_59 rfl (congrArg Prod.fst (F.1 107 (4, 18) rfl rfl)) (F.2.1 13696 32 rfl rfl) ?_
                      refine x_getR (b := 49) 1 8 rfl f_4_71 rfl (congrArg Prod.fst (F.1 32 (1, 20) rfl rfl)) (F.2.1 4104 49 rfl rfl) ?_
                      refine y_getI (v := 0) 8 3 rfl f_4_77 rfl (congrArg Prod.fst (F.1 49 (8, 4) rfl rfl)) (F.2.2.1 6275 0 rfl rfl) ?_
                      refine x_inst (N := m_J9_min_7cf53) (As := [.int 40, .int 0]) (st := []) (d' := 97) (mc := 0) (ms := 0) (host := "") rfl t_J9_min_7cf53 ⟨Or.inl q_4_82, s_J9_min_7cf53⟩ rfl (by decide) rfl rfl ⟨by decide, by decide⟩ (jC.of rfl k_J9_min_7cf53 rfl ?_)
                      show jX m_J9_min_7cf53 97 0 0 0 [(0, .int 40), (1, .int 0)] [] _ 0 0 _
                      refine x_iloadn (x := 40) rfl rfl ?_
                      refine x_iloadn (x := 0) rfl rfl ?_
                      refine x_icgt (tgt := 9) rfl rfl (br_t (by decide) ?_)
                      refine x_iloadn (x := 0) rfl rfl ?_
                      refine x_iret rfl rfl ?_
                      show jX m_X4_houses 98 0 0 15 [(0, .ref 107)] [.int 0] _ 0 0 _
                      refine x_iret rfl rfl ?_
                      show jX m_X4_partOut 99 0 0 204 [(7, .int 0), (5, .long 0), (4, .int 0), (3, .int 0), (0, .ref 107), (1, .int a1), (2, .int a3)] [.int 0, .int 0] _ 0 0 _
                      refine x_icge (tgt := 275) rfl rfl (br_t (by decide) ?_)
                      refine x_vret rfl rfl ?_
                      show jX m_X11_owe 100 0 0 54 [(0, .ref 31), (1, .int a1), (2, .int a2), (3, .int a3)] [] _ 0 0 _
                      refine x_iloadn (x := a2) rfl rfl ?_
                      refine x_iconst (v := (-1)) rfl ki_m1 ?_
                      refine x_icne (tgt := 69) rfl rfl (ti_ne (show (a2 : Int32).toInt = a2.toInt from rfl) (show ((-1) : Int32).toInt = (-1) by decide) (bn_t c5 ?_))
                      refine x_aloadn (x := 31) rfl rfl ?_
                      refine x_getR (b := 107) 11 8 rfl f_11_75 rfl (congrArg Prod.fst (F.1 31 (11, 13) rfl rfl)) (F.2.1 3976 107 rfl rfl) ?_
                      refine x_getR (b := 108) 4 3 rfl f_11_449 rfl (congrArg Prod.fst (F.1 107 (4, 18) rfl rfl)) (F.2.1 13699 108 rfl rfl) ?_
                      refine x_iloadn (x := a2) rfl rfl ?_
                      refine y_iald (v := 0) (N := 40) a2.toNatClampNeg rfl (F.1 108 (100, 40) rfl rfl) (vpi (by omega)) rfl (F.2.2.2.1 108 rfl rfl _).1 ?_
                      refine x_iret rfl rfl ?_
                      exact jqe (show sp_owe a1 a2 a3 = 0 by unfold sp_owe; (repeat' split) <;> first | rfl | (exfalso; omega)) (hQ _ (by repeat (first | exact FM | refine jFb_si rfl ?_ | refine jFb_sl rfl ?_ | refine jFb_ci rfl ?_ | refine jFb_cl rfl ?_ | refine jFb_sr rfl ?_)) (by repeat (first | exact O | refine jOl_si rfl ?_ | refine jOl_sl rfl ?_ | refine jOl_ci rfl ?_ | refine jOl_cl rfl ?_ | refine jOl_sr rfl ?_)))
                    ·
                      refine x_aloadn (x := 111) rfl rfl ?_
                      refine x_iconst (v := 1) rfl ki_1 ?_
                      refine y_iald (v := 0) (N := 3) 1 rfl (F.1 111 (100, 3) rfl rfl) (jinb_of (by decide)) (by decide) (F.2.2.2.1 111 rfl rfl 1).1 ?_
                      refine x_iloadn (x := a3) rfl rfl ?_
                      refine x_icne (tgt := 33) rfl rfl (ti_ne (show (0 : Int32).toInt = 0 by decide) (show (a3 : Int32).toInt = a3.toInt from rfl) (bn_f c12 ?_))
                      refine x_aloadn (x := 111) rfl rfl ?_
                      refine x_iconst (v := 2) rfl ki_2 ?_
                      refine y_iald (v := 0) (N := 3) 2 rfl (F.1 111 (100, 3) rfl rfl) (jinb_of (by decide)) (by decide) (F.2.2.2.1 111 rfl rfl 2).1 ?_
                      refine x_iloadn (x := 1) rfl rfl ?_
                      refine x_icne (tgt := 33) rfl rfl (bn_t (by decide) ?_)
                      refine x_iconst (v := 0) rfl ki_0 ?_
                      refine x_istore (ls' := [(4, .int 0), (0, .ref 111), (1, .int a1), (2, .int a3), (3, .int 1)]) rfl rfl rfl ?_
                      refine x_aloadn (x := 111) rfl rfl ?_
                      refine x_iconst (v := 0) rfl ki_0 ?_
                      refine x_iloadn (x := a1) rfl rfl ?_
                      refine y_iast (N := 3) 0 rfl (F.1 111 (100, 3) rfl rfl) rfl (jinb_of (by decide)) (by decide) ?_
                      refine x_aloadn (x := 111) rfl rfl ?_
                      refine x_iconst (v := 1) rfl ki_1 ?_
                      refine x_iloadn (x := a3) rfl rfl ?_
                      refine y_iast (N := 3) 1 rfl (F.1 111 (100, 3) rfl rfl) rfl (jinb_of (by decide)) (by decide) ?_
                      refine x_aloadn (x := 111) rfl rfl ?_
                      refine x_iconst (v := 2) rfl ki_2 ?_
                      refine x_iloadn (x := 1) rfl rfl ?_
                      refine y_iast (N := 3) 2 rfl (F.1 111 (100, 3) rfl rfl) rfl (jinb_of (by decide)) (by decide) ?_
                      refine x_iload (x := 0) rfl rfl ?_
                      refine x_zret rfl rfl (by first | decide | exact jp_01 _) ?_
                      show jX m_X4_partOut 99 0 0 16 [(0, .ref 107), (1, .int a1), (2, .int a3)] [.int 0] _ 0 0 _
                      refine x_ifeq (tgt := 20) rfl rfl (br_t (by decide) ?_)
                      refine x_aloadn (x := 107) rfl rfl ?_
                      refine x_getR (b := 32) 4 0 rfl f_4_59 rfl (congrArg Prod.fst (F.1 107 (4, 18) rfl rfl)) (F.2.1 13696 32 rfl rfl) ?_
                      refine x_getR (b := 53) 1 10 rfl f_4_95 rfl (congrArg Prod.fst (F.1 32 (1, 20) rfl rfl)) (F.2.1 4106 53 rfl rfl) ?_
                      refine x_iloadn (x := a1) rfl rfl ?_
                      refine x_iconst (v := 2) rfl ki_2 ?_
                      refine x_inv (N := m_X8_at) (As := [.int a1, .int 2]) (b := 53) (st := []) (d' := 98) (mc := 0) (ms := 0) (host := "") 8 rfl t_X8_at ⟨Or.inl q_4_98, i_X8_at.1, i_X8_at.2⟩ ⟨by decide, rfl⟩ (congrArg Prod.fst (F.1 53 (8, 4) rfl rfl)) rfl (by decide) rfl rfl ⟨by decide, by decide⟩ (jC.of rfl k_X8_at rfl ?_)
                      show jX m_X8_at 98 0 0 0 [(0, .ref 53), (1, .int a1), (2, .int 2)] [] _ 0 0 _
                      refine x_iloadn (x := a1) rfl rfl ?_
                      refine x_iflt (tgt := 24) rfl rfl (ti_lt (show (a1 : Int32).toInt = a1.toInt from rfl) (show (0 : Int32).toInt = 0 by decide) (br_f c2 ?_))
                      refine x_iloadn (x := a1) rfl rfl ?_
                      refine x_aloadn (x := 53) rfl rfl ?_
                      refine y_getI (v := 0) 8 3 rfl f_8_7 rfl (congrArg Prod.fst (F.1 53 (8, 4) rfl rfl)) (F.2.2.1 6787 0 rfl rfl) ?_
                      refine x_icge (tgt := 24) rfl rfl (ti_ge (show (a1 : Int32).toInt = a1.toInt from rfl) (show (0 : Int32).toInt = 0 by decide) (br_f c3 ?_))
                      refine x_iloadn (x := 2) rfl rfl ?_
                      refine x_iflt (tgt := 24) rfl rfl (br_f (by decide) ?_)
                      refine x_iloadn (x := 2) rfl rfl ?_
                      refine x_aloadn (x := 53) rfl rfl ?_
                      refine y_getI (v := 4) 8 0 rfl f_8_19 rfl (congrArg Prod.fst (F.1 53 (8, 4) rfl rfl)) (F.2.2.1 6784 4 rfl rfl) ?_
                      refine x_iclt (tgt := 26) rfl rfl (br_t (by decide) ?_)
                      refine x_aloadn (x := 53) rfl rfl ?_
                      refine x_getR (b := 54) 8 2 rfl f_8_25 rfl (congrArg Prod.fst (F.1 53 (8, 4) rfl rfl)) (F.2.1 6786 54 rfl rfl) ?_
                      refine x_iloadn (x := a1) rfl rfl ?_
                      refine x_aloadn (x := 53) rfl rfl ?_
                      refine y_getI (v := 4) 8 0 rfl f_8_19 rfl (congrArg Prod.fst (F.1 53 (8, 4) rfl rfl)) (F.2.2.1 6784 4 rfl rfl) ?_
                      refine x_imul rfl ?_
                      refine x_iloadn (x := 2) rfl rfl ?_
                      refine x_iadd rfl ?_
                      refine y_iald (v := 0) (N := 160) ((a1 * 4) + 2).toNatClampNeg rfl (F.1 54 (100, 160) rfl rfl) (vpi (by omega)) rfl (F.2.2.2.1 54 rfl rfl _).1 ?_
                      refine x_iret rfl rfl ?_
                      show jX m_X4_partOut 99 0 0 32 [(0, .ref 107), (1, .int a1), (2, .int a3)] [.int 0] _ 0 0 _
                      refine x_istoren (ls' := [(3, .int 0), (0, .ref 107), (1, .int a1), (2, .int a3)]) rfl rfl rfl ?_
                      refine x_aloadn (x := 107) rfl rfl ?_
                      refine x_getR (b := 32) 4 0 rfl f_4_59 rfl (congrArg Prod.fst (F.1 107 (4, 18) rfl rfl)) (F.2.1 13696 32 rfl rfl) ?_
                      refine x_getR (b := 53) 1 10 rfl f_4_95 rfl (congrArg Prod.fst (F.1 32 (1, 20) rfl rfl)) (F.2.1 4106 53 rfl rfl) ?_
                      refine x_iloadn (x := a1) rfl rfl ?_
                      refine x_iconst (v := 3) rfl ki_3 ?_
                      refine x_inv (N := m_X8_at) (As := [.int a1, .int 3]) (b := 53) (st := []) (d' := 98) (mc := 0) (ms := 0) (host := "") 8 rfl t_X8_at ⟨Or.inl q_4_98, i_X8_at.1, i_X8_at.2⟩ ⟨by decide, rfl⟩ (congrArg Prod.fst (F.1 53 (8, 4) rfl rfl)) rfl (by decide) rfl rfl ⟨by decide, by decide⟩ (jC.of rfl k_X8_at rfl ?_)
                      show jX m_X8_at 98 0 0 0 [(0, .ref 53), (1, .int a1), (2, .int 3)] [] _ 0 0 _
                      refine x_iloadn (x := a1) rfl rfl ?_
                      refine x_iflt (tgt := 24) rfl rfl (ti_lt (show (a1 : Int32).toInt = a1.toInt from rfl) (show (0 : Int32).toInt = 0 by decide) (br_f c2 ?_))
                      refine x_iloadn (x := a1) rfl rfl ?_
                      refine x_aloadn (x := 53) rfl rfl ?_
                      refine y_getI (v := 0) 8 3 rfl f_8_7 rfl (congrArg Prod.fst (F.1 53 (8, 4) rfl rfl)) (F.2.2.1 6787 0 rfl rfl) ?_
                      refine x_icge (tgt := 24) rfl rfl (ti_ge (show (a1 : Int32).toInt = a1.toInt from rfl) (show (0 : Int32).toInt = 0 by decide) (br_f c3 ?_))
                      refine x_iloadn (x := 3) rfl rfl ?_
                      refine x_iflt (tgt := 24) rfl rfl (br_f (by decide) ?_)
                      refine x_iloadn (x := 3) rfl rfl ?_
                      refine x_aloadn (x := 53) rfl rfl ?_
                      refine y_getI (v := 4) 8 0 rfl f_8_19 rfl (congrArg Prod.fst (F.1 53 (8, 4) rfl rfl)) (F.2.2.1 6784 4 rfl rfl) ?_
                      refine x_iclt (tgt := 26) rfl rfl (br_t (by decide) ?_)
                      refine x_aloadn (x := 53) rfl rfl ?_
                      refine x_getR (b := 54) 8 2 rfl f_8_25 rfl (congrArg Prod.fst (F.1 53 (8, 4) rfl rfl)) (F.2.1 6786 54 rfl rfl) ?_
                      refine x_iloadn (x := a1) rfl rfl ?_
                      refine x_aloadn (x := 53) rfl rfl ?_
                      refine y_getI (v := 4) 8 0 rfl f_8_19 rfl (congrArg Prod.fst (F.1 53 (8, 4) rfl rfl)) (F.2.2.1 6784 4 rfl rfl) ?_
                      refine x_imul rfl ?_
                      refine x_iloadn (x := 3) rfl rfl ?_
                      refine x_iadd rfl ?_
                      refine y_iald (v := 0) (N := 160) ((a1 * 4) + 3).toNatClampNeg rfl (F.1 54 (100, 160) rfl rfl) (vpi (by omega)) rfl (F.2.2.2.1 54 rfl rfl _).1 ?_
                      refine x_iret rfl rfl ?_
                      show jX m_X4_partOut 99 0 0 45 [(3, .int 0), (0, .ref 107), (1, .int a1), (2, .int a3)] [.int 0] _ 0 0 _
                      refine x_istore (ls' := [(4, .int 0), (3, .int 0), (0, .ref 107), (1, .int a1), (2, .int a3)]) rfl rfl rfl ?_
                      refine x_aloadn (x := 107) rfl rfl ?_
                      refine x_getR (b := 98) 4 2 rfl f_4_67 rfl (congrArg Prod.fst (F.1 107 (4, 18) rfl rfl)) (F.2.1 13698 98 rfl rfl) ?_
                      refine x_aloadn (x := 107) rfl rfl ?_
                      refine x_getR (b := 32) 4 0 rfl f_4_59 rfl (congrArg Prod.fst (F.1 107 (4, 18) rfl rfl)) (F.2.1 13696 32 rfl rfl) ?_
                      refine x_getR (b := 53) 1 10 rfl f_4_95 rfl (congrArg Prod.fst (F.1 32 (1, 20) rfl rfl)) (F.2.1 4106 53 rfl rfl) ?_
                      refine x_iloadn (x := a1) rfl rfl ?_
                      refine x_iconst (v := 1) rfl ki_1 ?_
                      refine x_inv (N := m_X8_at) (As := [.int a1, .int 1]) (b := 53) (st := [.ref 98]) (d' := 98) (mc := 0) (ms := 0) (host := "") 8 rfl t_X8_at ⟨Or.inl q_4_98, i_X8_at.1, i_X8_at.2⟩ ⟨by decide, rfl⟩ (congrArg Prod.fst (F.1 53 (8, 4) rfl rfl)) rfl (by decide) rfl rfl ⟨by decide, by decide⟩ (jC.of rfl k_X8_at rfl ?_)
                      show jX m_X8_at 98 0 0 0 [(0, .ref 53), (1, .int a1), (2, .int 1)] [] _ 0 0 _
                      refine x_iloadn (x := a1) rfl rfl ?_
                      refine x_iflt (tgt := 24) rfl rfl (ti_lt (show (a1 : Int32).toInt = a1.toInt from rfl) (show (0 : Int32).toInt = 0 by decide) (br_f c2 ?_))
                      refine x_iloadn (x := a1) rfl rfl ?_
                      refine x_aloadn (x := 53) rfl rfl ?_
                      refine y_getI (v := 0) 8 3 rfl f_8_7 rfl (congrArg Prod.fst (F.1 53 (8, 4) rfl rfl)) (F.2.2.1 6787 0 rfl rfl) ?_
                      refine x_icge (tgt := 24) rfl rfl (ti_ge (show (a1 : Int32).toInt = a1.toInt from rfl) (show (0 : Int32).toInt = 0 by decide) (br_f c3 ?_))
                      refine x_iloadn (x := 1) rfl rfl ?_
                      refine x_iflt (tgt := 24) rfl rfl (br_f (by decide) ?_)
                      refine x_iloadn (x := 1) rfl rfl ?_
                      refine x_aloadn (x := 53) rfl rfl ?_
                      refine y_getI (v := 4) 8 0 rfl f_8_19 rfl (congrArg Prod.fst (F.1 53 (8, 4) rfl rfl)) (F.2.2.1 6784 4 rfl rfl) ?_
                      refine x_iclt (tgt := 26) rfl rfl (br_t (by decide) ?_)
                      refine x_aloadn (x := 53) rfl rfl ?_
                      refine x_getR (b := 54) 8 2 rfl f_8_25 rfl (congrArg Prod.fst (F.1 53 (8, 4) rfl rfl)) (F.2.1 6786 54 rfl rfl) ?_
                      refine x_iloadn (x := a1) rfl rfl ?_
                      refine x_aloadn (x := 53) rfl rfl ?_
                      refine y_getI (v := 4) 8 0 rfl f_8_19 rfl (congrArg Prod.fst (F.1 53 (8, 4) rfl rfl)) (F.2.2.1 6784 4 rfl rfl) ?_
                      refine x_imul rfl ?_
                      refine x_iloadn (x := 1) rfl rfl ?_
                      refine x_iadd rfl ?_
                      refine y_iald (v := 0) (N := 160) ((a1 * 4) + 1).toNatClampNeg rfl (F.1 54 (100, 160) rfl rfl) (vpi (by omega)) rfl (F.2.2.2.1 54 rfl rfl _).1 ?_
                      refine x_iret rfl rfl ?_
                      show jX m_X4_partOut 99 0 0 63 [(4, .int 0), (3, .int 0), (0, .ref 107), (1, .int a1), (2, .int a3)] [.int 0, .ref 98] _ 0 0 _
                      refine x_sipush (v := 366) rfl ks_366 ?_
                      refine y_imul (v := 0) rfl (by decide) ?_
                      refine x_iloadn (x := a3) rfl rfl ?_
                      refine x_inv (N := m_X0_turnTo) (As := [.int 0, .int a3]) (b := 98) (st := []) (d' := 98) (mc := 0) (ms := 0) (host := "") 0 rfl t_X0_turnTo ⟨Or.inl q_4_101, i_X0_turnTo.1, i_X0_turnTo.2⟩ ⟨by decide, rfl⟩ (congrArg Prod.fst (F.1 98 (0, 16) rfl rfl)) rfl (by decide) rfl rfl ⟨by decide, by decide⟩ (jC.of rfl k_X0_turnTo rfl ?_)
                      show jX m_X0_turnTo 98 0 0 0 [(0, .ref 98), (1, .int 0), (2, .int a3)] [] _ 0 0 _
                      refine x_aloadn (x := 98) rfl rfl ?_
                      refine x_iloadn (x := 0) rfl rfl ?_
                      refine x_iloadn (x := a3) rfl rfl ?_
                      refine x_inv (N := m_X0_readLaws) (As := [.int 0, .int a3]) (b := 98) (st := []) (d' := 97) (mc := 0) (ms := 0) (host := "") 0 rfl t_X0_readLaws ⟨Or.inl q_0_65, i_X0_readLaws.1, i_X0_readLaws.2⟩ ⟨by decide, rfl⟩ (congrArg Prod.fst (F.1 98 (0, 16) rfl rfl)) rfl (by decide) rfl rfl ⟨by decide, by decide⟩ (jC.of rfl k_X0_readLaws rfl ?_)
                      show jX m_X0_readLaws 97 0 0 0 [(0, .ref 98), (1, .int 0), (2, .int a3)] [] _ 0 0 _
                      refine x_aloadn (x := 98) rfl rfl ?_
                      refine x_iloadn (x := 0) rfl rfl ?_
                      refine x_putI 0 10 rfl f_0_37 rfl (jfin_no TX0 RX0 16 rfl rfl) (congrArg Prod.fst (F.1 98 (0, 16) rfl rfl)) rfl ?_
                      refine x_aloadn (x := 98) rfl rfl ?_
                      refine x_iloadn (x := a3) rfl rfl ?_
                      refine x_putI 0 11 rfl f_0_41 rfl (jfin_no TX0 RX0 16 rfl rfl) (congrArg Prod.fst (F.1 98 (0, 16) rfl rfl)) rfl ?_
                      refine x_aloadn (x := 98) rfl rfl ?_
                      refine x_getR (b := 101) 0 4 rfl f_0_18 rfl (congrArg Prod.fst (F.1 98 (0, 16) rfl rfl)) (F.2.1 12548 101 rfl rfl) ?_
                      refine x_aloadn (x := 98) rfl rfl ?_
                      refine y_getI (v := 0) 0 10 rfl f_0_37 rfl (congrArg Prod.fst (F.1 98 (0, 16) rfl rfl)) rfl ?_
                      refine x_aloadn (x := 98) rfl rfl ?_
                      refine y_getI (v := a3) 0 11 rfl f_0_41 rfl (congrArg Prod.fst (F.1 98 (0, 16) rfl rfl)) rfl ?_
                      refine x_aloadn (x := 98) rfl rfl ?_
                      refine x_getR (b := 32) 0 0 rfl f_0_57 rfl (congrArg Prod.fst (F.1 98 (0, 16) rfl rfl)) (F.2.1 12544 32 rfl rfl) ?_
                      refine y_getI (v := 1) 1 19 rfl f_0_81 rfl (congrArg Prod.fst (F.1 32 (1, 20) rfl rfl)) (F.2.2.1 4115 1 rfl rfl) ?_
                      refine x_inst (N := m_X11_isFresh) (As := [.ref 101, .int 0, .int a3, .int 1]) (st := []) (d' := 96) (mc := 0) (ms := 0) (host := "ParishChest") rfl t_X11_isFresh ⟨Or.inr q_0_84, s_X11_isFresh⟩ rfl (by decide) rfl rfl ⟨by decide, by decide⟩ (jC.of rfl k_X11_isFresh rfl ?_)
                      show jX m_X11_isFresh 96 0 0 0 [(0, .ref 101), (1, .int 0), (2, .int a3), (3, .int 1)] [] _ 0 0 _
                      refine x_aloadn (x := 101) rfl rfl ?_
                      refine y_alen (N := 3) (v := 3) rfl (F.1 101 (100, 3) rfl rfl) (by decide) (by decide) ?_
                      refine x_iconst (v := 3) rfl ki_3 ?_
                      refine x_icge (tgt := 8) rfl rfl (br_t (by decide) ?_)
                      refine x_aloadn (x := 101) rfl rfl ?_
                      refine x_iconst (v := 0) rfl ki_0 ?_
                      refine y_iald (v := 0) (N := 3) 0 rfl (F.1 101 (100, 3) rfl rfl) (jinb_of (by decide)) (by decide) (F.2.2.2.1 101 rfl rfl 0).1 ?_
                      refine x_iloadn (x := 0) rfl rfl ?_
                      refine x_icne (tgt := 33) rfl rfl (bn_f (by decide) ?_)
                      refine x_aloadn (x := 101) rfl rfl ?_
                      refine x_iconst (v := 1) rfl ki_1 ?_
                      refine y_iald (v := 0) (N := 3) 1 rfl (F.1 101 (100, 3) rfl rfl) (jinb_of (by decide)) (by decide) (F.2.2.2.1 101 rfl rfl 1).1 ?_
                      refine x_iloadn (x := a3) rfl rfl ?_
                      refine x_icne (tgt := 33) rfl rfl (ti_ne (show (0 : Int32).toInt = 0 by decide) (show (a3 : Int32).toInt = a3.toInt from rfl) (bn_f c12 ?_))
                      refine x_aloadn (x := 101) rfl rfl ?_
                      refine x_iconst (v := 2) rfl ki_2 ?_
                      refine y_iald (v := 0) (N := 3) 2 rfl (F.1 101 (100, 3) rfl rfl) (jinb_of (by decide)) (by decide) (F.2.2.2.1 101 rfl rfl 2).1 ?_
                      refine x_iloadn (x := 1) rfl rfl ?_
                      refine x_icne (tgt := 33) rfl rfl (bn_t (by decide) ?_)
                      refine x_iconst (v := 0) rfl ki_0 ?_
                      refine x_istore (ls' := [(4, .int 0), (0, .ref 101), (1, .int 0), (2, .int a3), (3, .int 1)]) rfl rfl rfl ?_
                      refine x_aloadn (x := 101) rfl rfl ?_
                      refine x_iconst (v := 0) rfl ki_0 ?_
                      refine x_iloadn (x := 0) rfl rfl ?_
                      refine y_iast (N := 3) 0 rfl (F.1 101 (100, 3) rfl rfl) rfl (jinb_of (by decide)) (by decide) ?_
                      refine x_aloadn (x := 101) rfl rfl ?_
                      refine x_iconst (v := 1) rfl ki_1 ?_
                      refine x_iloadn (x := a3) rfl rfl ?_
                      refine y_iast (N := 3) 1 rfl (F.1 101 (100, 3) rfl rfl) rfl (jinb_of (by decide)) (by decide) ?_
                      refine x_aloadn (x := 101) rfl rfl ?_
                      refine x_iconst (v := 2) rfl ki_2 ?_
                      refine x_iloadn (x := 1) rfl rfl ?_
                      refine y_iast (N := 3) 2 rfl (F.1 101 (100, 3) rfl rfl) rfl (jinb_of (by decide)) (by decide) ?_
                      refine x_iload (x := 0) rfl rfl ?_
                      refine x_zret rfl rfl (by first | decide | exact jp_01 _) ?_
                      show jX m_X0_readLaws 97 0 0 32 [(0, .ref 98), (1, .int 0), (2, .int a3)] [.int 0] _ 0 0 _
                      refine x_ifeq (tgt := 36) rfl rfl (br_t (by decide) ?_)
                      refine x_bipush (v := 30) rfl kb_30 ?_
                      refine x_aloadn (x := 98) rfl rfl ?_
                      refine x_getR (b := 32) 0 0 rfl f_0_57 rfl (congrArg Prod.fst (F.1 98 (0, 16) rfl rfl)) (F.2.1 12544 32 rfl rfl) ?_
                      refine y_getI (v := 0) 1 18 rfl f_0_72 rfl (congrArg Prod.fst (F.1 32 (1, 20) rfl rfl)) (F.2.2.1 4114 0 rfl rfl) ?_
                      refine x_inst (N := m_J9_min_7cf53) (As := [.int 30, .int 0]) (st := []) (d' := 96) (mc := 0) (ms := 0) (host := "") rfl t_J9_min_7cf53 ⟨Or.inl q_0_88, s_J9_min_7cf53⟩ rfl (by decide) rfl rfl ⟨by decide, by decide⟩ (jC.of rfl k_J9_min_7cf53 rfl ?_)
                      show jX m_J9_min_7cf53 96 0 0 0 [(0, .int 30), (1, .int 0)] [] _ 0 0 _
                      refine x_iloadn (x := 30) rfl rfl ?_
                      refine x_iloadn (x := 0) rfl rfl ?_
                      refine x_icgt (tgt := 9) rfl rfl (br_t (by decide) ?_)
                      refine x_iloadn (x := 0) rfl rfl ?_
                      refine x_iret rfl rfl ?_
                      show jX m_X0_readLaws 97 0 0 48 [(0, .ref 98), (1, .int 0), (2, .int a3)] [.int 0] _ 0 0 _
                      refine x_istoren (ls' := [(3, .int 0), (0, .ref 98), (1, .int 0), (2, .int a3)]) rfl rfl rfl ?_
                      refine x_iconst (v := 0) rfl ki_0 ?_
                      refine x_istore (ls' := [(4, .int 0), (3, .int 0), (0, .ref 98), (1, .int 0), (2, .int a3)]) rfl rfl rfl ?_
                      refine x_iload (x := 0) rfl rfl ?_
                      refine x_iloadn (x := 0) rfl rfl ?_
                      refine x_icge (tgt := 80) rfl rfl (br_t (by decide) ?_)
                      refine x_iloadn (x := 0) rfl rfl ?_
                      refine x_iconst (v := 1) rfl ki_1 ?_
                      refine y_isub (v := (-1)) rfl (by decide) ?_
                      refine x_istore (ls' := [(4, .int (-1)), (3, .int 0), (0, .ref 98), (1, .int 0), (2, .int a3)]) rfl rfl rfl ?_
                      refine x_iload (x := (-1)) rfl rfl ?_
                      refine x_iflt (tgt := 167) rfl rfl (br_t (by decide) ?_)
                      refine x_vret rfl rfl ?_
                      show jX m_X0_turnTo 98 0 0 6 [(0, .ref 98), (1, .int 0), (2, .int a3)] [] _ 0 0 _
                      refine x_aloadn (x := 98) rfl rfl ?_
                      refine x_iloadn (x := 0) rfl rfl ?_
                      refine x_iloadn (x := a3) rfl rfl ?_
                      refine x_inv (N := m_X0_readHouses) (As := [.int 0, .int a3]) (b := 98) (st := []) (d' := 97) (mc := 0) (ms := 0) (host := "") 0 rfl t_X0_readHouses ⟨Or.inl q_0_69, i_X0_readHouses.1, i_X0_readHouses.2⟩ ⟨by decide, rfl⟩ (congrArg Prod.fst (F.1 98 (0, 16) rfl rfl)) rfl (by decide) rfl rfl ⟨by decide, by decide⟩ (jC.of rfl k_X0_readHouses rfl ?_)
                      show jX m_X0_readHouses 97 0 0 0 [(0, .ref 98), (1, .int 0), (2, .int a3)] [] _ 0 0 _
                      refine x_aloadn (x := 98) rfl rfl ?_
                      refine x_iloadn (x := 0) rfl rfl ?_
                      refine x_putI 0 10 rfl f_0_37 rfl (jfin_no TX0 RX0 16 rfl rfl) (congrArg Prod.fst (F.1 98 (0, 16) rfl rfl)) rfl ?_
                      refine x_aloadn (x := 98) rfl rfl ?_
                      refine x_iloadn (x := a3) rfl rfl ?_
                      refine x_putI 0 11 rfl f_0_41 rfl (jfin_no TX0 RX0 16 rfl rfl) (congrArg Prod.fst (F.1 98 (0, 16) rfl rfl)) rfl ?_
                      refine x_aloadn (x := 98) rfl rfl ?_
                      refine x_getR (b := 105) 0 8 rfl f_0_30 rfl (congrArg Prod.fst (F.1 98 (0, 16) rfl rfl)) (F.2.1 12552 105 rfl rfl) ?_
                      refine x_aloadn (x := 98) rfl rfl ?_
                      refine y_getI (v := 0) 0 10 rfl f_0_37 rfl (congrArg Prod.fst (F.1 98 (0, 16) rfl rfl)) rfl ?_
                      refine x_aloadn (x := 98) rfl rfl ?_
                      refine y_getI (v := a3) 0 11 rfl f_0_41 rfl (congrArg Prod.fst (F.1 98 (0, 16) rfl rfl)) rfl ?_
                      refine x_aloadn (x := 98) rfl rfl ?_
                      refine x_getR (b := 32) 0 0 rfl f_0_57 rfl (congrArg Prod.fst (F.1 98 (0, 16) rfl rfl)) (F.2.1 12544 32 rfl rfl) ?_
                      refine y_getI (v := 1) 1 19 rfl f_0_81 rfl (congrArg Prod.fst (F.1 32 (1, 20) rfl rfl)) (F.2.2.1 4115 1 rfl rfl) ?_
                      refine x_inst (N := m_X11_isFresh) (As := [.ref 105, .int 0, .int a3, .int 1]) (st := []) (d' := 96) (mc := 0) (ms := 0) (host := "ParishChest") rfl t_X11_isFresh ⟨Or.inr q_0_84, s_X11_isFresh⟩ rfl (by decide) rfl rfl ⟨by decide, by decide⟩ (jC.of rfl k_X11_isFresh rfl ?_)
                      show jX m_X11_isFresh 96 0 0 0 [(0, .ref 105), (1, .int 0), (2, .int a3), (3, .int 1)] [] _ 0 0 _
                      refine x_aloadn (x := 105) rfl rfl ?_
                      refine y_alen (N := 3) (v := 3) rfl (F.1 105 (100, 3) rfl rfl) (by decide) (by decide) ?_
                      refine x_iconst (v := 3) rfl ki_3 ?_
                      refine x_icge (tgt := 8) rfl rfl (br_t (by decide) ?_)
                      refine x_aloadn (x := 105) rfl rfl ?_
                      refine x_iconst (v := 0) rfl ki_0 ?_
                      refine y_iald (v := 0) (N := 3) 0 rfl (F.1 105 (100, 3) rfl rfl) (jinb_of (by decide)) (by decide) (F.2.2.2.1 105 rfl rfl 0).1 ?_
                      refine x_iloadn (x := 0) rfl rfl ?_
                      refine x_icne (tgt := 33) rfl rfl (bn_f (by decide) ?_)
                      refine x_aloadn (x := 105) rfl rfl ?_
                      refine x_iconst (v := 1) rfl ki_1 ?_
                      refine y_iald (v := 0) (N := 3) 1 rfl (F.1 105 (100, 3) rfl rfl) (jinb_of (by decide)) (by decide) (F.2.2.2.1 105 rfl rfl 1).1 ?_
                      refine x_iloadn (x := a3) rfl rfl ?_
                      refine x_icne (tgt := 33) rfl rfl (ti_ne (show (0 : Int32).toInt = 0 by decide) (show (a3 : Int32).toInt = a3.toInt from rfl) (bn_f c12 ?_))
                      refine x_aloadn (x := 105) rfl rfl ?_
                      refine x_iconst (v := 2) rfl ki_2 ?_
                      refine y_iald (v := 0) (N := 3) 2 rfl (F.1 105 (100, 3) rfl rfl) (jinb_of (by decide)) (by decide) (F.2.2.2.1 105 rfl rfl 2).1 ?_
                      refine x_iloadn (x := 1) rfl rfl ?_
                      refine x_icne (tgt := 33) rfl rfl (bn_t (by decide) ?_)
                      refine x_iconst (v := 0) rfl ki_0 ?_
                      refine x_istore (ls' := [(4, .int 0), (0, .ref 105), (1, .int 0), (2, .int a3), (3, .int 1)]) rfl rfl rfl ?_
                      refine x_aloadn (x := 105) rfl rfl ?_
                      refine x_iconst (v := 0) rfl ki_0 ?_
                      refine x_iloadn (x := 0) rfl rfl ?_
                      refine y_iast (N := 3) 0 rfl (F.1 105 (100, 3) rfl rfl) rfl (jinb_of (by decide)) (by decide) ?_
                      refine x_aloadn (x := 105) rfl rfl ?_
                      refine x_iconst (v := 1) rfl ki_1 ?_
                      refine x_iloadn (x := a3) rfl rfl ?_
                      refine y_iast (N := 3) 1 rfl (F.1 105 (100, 3) rfl rfl) rfl (jinb_of (by decide)) (by decide) ?_
                      refine x_aloadn (x := 105) rfl rfl ?_
                      refine x_iconst (v := 2) rfl ki_2 ?_
                      refine x_iloadn (x := 1) rfl rfl ?_
                      refine y_iast (N := 3) 2 rfl (F.1 105 (100, 3) rfl rfl) rfl (jinb_of (by decide)) (by decide) ?_
                      refine x_iload (x := 0) rfl rfl ?_
                      refine x_zret rfl rfl (by first | decide | exact jp_01 _) ?_
                      show jX m_X0_readHouses 97 0 0 32 [(0, .ref 98), (1, .int 0), (2, .int a3)] [.int 0] _ 0 0 _
                      refine x_ifeq (tgt := 36) rfl rfl (br_t (by decide) ?_)
                      refine x_bipush (v := 40) rfl kb_40 ?_
                      refine x_aloadn (x := 98) rfl rfl ?_
                      refine x_getR (b := 32) 0 0 rfl f_0_57 rfl (congrArg Prod.fst (F.1 98 (0, 16) rfl rfl)) (F.2.1 12544 32 rfl rfl) ?_
                      refine x_getR (b := 49) 1 8 rfl f_0_120 rfl (congrArg Prod.fst (F.1 32 (1, 20) rfl rfl)) (F.2.1 4104 49 rfl rfl) ?_
                      refine y_getI (v := 0) 8 3 rfl f_0_124 rfl (congrArg Prod.fst (F.1 49 (8, 4) rfl rfl)) (F.2.2.1 6275 0 rfl rfl) ?_
                      refine x_inst (N := m_J9_min_7cf53) (As := [.int 40, .int 0]) (st := []) (d' := 96) (mc := 0) (ms := 0) (host := "") rfl t_J9_min_7cf53 ⟨Or.inl q_0_88, s_J9_min_7cf53⟩ rfl (by decide) rfl rfl ⟨by decide, by decide⟩ (jC.of rfl k_J9_min_7cf53 rfl ?_)
                      show jX m_J9_min_7cf53 96 0 0 0 [(0, .int 40), (1, .int 0)] [] _ 0 0 _
                      refine x_iloadn (x := 40) rfl rfl ?_
                      refine x_iloadn (x := 0) rfl rfl ?_
                      refine x_icgt (tgt := 9) rfl rfl (br_t (by decide) ?_)
                      refine x_iloadn (x := 0) rfl rfl ?_
                      refine x_iret rfl rfl ?_
                      show jX m_X0_readHouses 97 0 0 51 [(0, .ref 98), (1, .int 0), (2, .int a3)] [.int 0] _ 0 0 _
                      refine x_istoren (ls' := [(3, .int 0), (0, .ref 98), (1, .int 0), (2, .int a3)]) rfl rfl rfl ?_
                      refine x_aloadn (x := 98) rfl rfl ?_
                      refine x_aloadn (x := 98) rfl rfl ?_
                      refine x_getR (b := 32) 0 0 rfl f_0_57 rfl (congrArg Prod.fst (F.1 98 (0, 16) rfl rfl)) (F.2.1 12544 32 rfl rfl) ?_
                      refine x_getR (b := 47) 1 7 rfl f_0_129 rfl (congrArg Prod.fst (F.1 32 (1, 20) rfl rfl)) (F.2.1 4103 47 rfl rfl) ?_
                      refine x_iconst (v := 3) rfl ki_3 ?_
                      refine x_aloadn (x := 98) rfl rfl ?_
                      refine x_getR (b := 102) 0 5 rfl f_0_21 rfl (congrArg Prod.fst (F.1 98 (0, 16) rfl rfl)) (F.2.1 12549 102 rfl rfl) ?_
                      refine x_iconst (v := 0) rfl ki_0 ?_
                      refine x_inv (N := m_X0_readLatest) (As := [.ref 47, .int 3, .ref 102, .int 0]) (b := 98) (st := []) (d' := 96) (mc := 0) (ms := 0) (host := "") 0 rfl t_X0_readLatest ⟨Or.inl q_0_132, i_X0_readLatest.1, i_X0_readLatest.2⟩ ⟨by decide, rfl⟩ (congrArg Prod.fst (F.1 98 (0, 16) rfl rfl)) rfl (by decide) rfl rfl ⟨by decide, by decide⟩ (jC.of rfl k_X0_readLatest rfl ?_)
                      show jX m_X0_readLatest 96 0 0 0 [(0, .ref 98), (1, .ref 47), (2, .int 3), (3, .ref 102), (4, .int 0)] [] _ 0 0 _
                      refine x_iconst (v := 0) rfl ki_0 ?_
                      refine x_istore (ls' := [(5, .int 0), (0, .ref 98), (1, .ref 47), (2, .int 3), (3, .ref 102), (4, .int 0)]) rfl rfl rfl ?_
                      refine x_iload (x := 0) rfl rfl ?_
                      refine x_bipush (v := 40) rfl kb_40 ?_
                      refine x_icge (tgt := 52) rfl rfl (br_f (by decide) ?_)
                      refine x_iload (x := 0) rfl rfl ?_
                      refine x_aloadn (x := 98) rfl rfl ?_
                      refine x_getR (b := 32) 0 0 rfl f_0_57 rfl (congrArg Prod.fst (F.1 98 (0, 16) rfl rfl)) (F.2.1 12544 32 rfl rfl) ?_
                      refine x_getR (b := 49) 1 8 rfl f_0_120 rfl (congrArg Prod.fst (F.1 32 (1, 20) rfl rfl)) (F.2.1 4104 49 rfl rfl) ?_
                      refine y_getI (v := 0) 8 3 rfl f_0_124 rfl (congrArg Prod.fst (F.1 49 (8, 4) rfl rfl)) (F.2.2.1 6275 0 rfl rfl) ?_
                      refine x_icge (tgt := 52) rfl rfl (br_t (by decide) ?_)
                      refine x_iconst (v := 0) rfl ki_0 ?_
                      refine x_istore (ls' := [(5, .int 0), (0, .ref 98), (1, .ref 47), (2, .int 3), (3, .ref 102), (4, .int 0)]) rfl rfl rfl ?_
                      refine x_iload (x := 0) rfl rfl ?_
                      refine x_aloadn (x := 47) rfl rfl ?_
                      refine y_getI (v := 0) 8 3 rfl f_0_124 rfl (congrArg Prod.fst (F.1 47 (8, 4) rfl rfl)) (F.2.2.1 6019 0 rfl rfl) ?_
                      refine x_icge (tgt := 161) rfl rfl (br_t (by decide) ?_)
                      refine x_vret rfl rfl ?_
                      show jX m_X0_readHouses 97 0 0 69 [(3, .int 0), (0, .ref 98), (1, .int 0), (2, .int a3)] [] _ 0 0 _
                      refine x_aloadn (x := 98) rfl rfl ?_
                      refine x_aloadn (x := 98) rfl rfl ?_
                      refine x_getR (b := 32) 0 0 rfl f_0_57 rfl (congrArg Prod.fst (F.1 98 (0, 16) rfl rfl)) (F.2.1 12544 32 rfl rfl) ?_
                      refine x_getR (b := 51) 1 9 rfl f_0_136 rfl (congrArg Prod.fst (F.1 32 (1, 20) rfl rfl)) (F.2.1 4105 51 rfl rfl) ?_
                      refine x_iconst (v := 3) rfl ki_3 ?_
                      refine x_aloadn (x := 98) rfl rfl ?_
                      refine x_getR (b := 103) 0 6 rfl f_0_24 rfl (congrArg Prod.fst (F.1 98 (0, 16) rfl rfl)) (F.2.1 12550 103 rfl rfl) ?_
                      refine x_iconst (v := (-1)) rfl ki_m1 ?_
                      refine x_inv (N := m_X0_readLatest) (As := [.ref 51, .int 3, .ref 103, .int (-1)]) (b := 98) (st := []) (d' := 96) (mc := 0) (ms := 0) (host := "") 0 rfl t_X0_readLatest ⟨Or.inl q_0_132, i_X0_readLatest.1, i_X0_readLatest.2⟩ ⟨by decide, rfl⟩ (congrArg Prod.fst (F.1 98 (0, 16) rfl rfl)) rfl (by decide) rfl rfl ⟨by decide, by decide⟩ (jC.of rfl k_X0_readLatest rfl ?_)
                      show jX m_X0_readLatest 96 0 0 0 [(0, .ref 98), (1, .ref 51), (2, .int 3), (3, .ref 103), (4, .int (-1))] [] _ 0 0 _
                      refine x_iconst (v := 0) rfl ki_0 ?_
                      refine x_istore (ls' := [(5, .int 0), (0, .ref 98), (1, .ref 51), (2, .int 3), (3, .ref 103), (4, .int (-1))]) rfl rfl rfl ?_
                      refine x_iload (x := 0) rfl rfl ?_
                      refine x_bipush (v := 40) rfl kb_40 ?_
                      refine x_icge (tgt := 52) rfl rfl (br_f (by decide) ?_)
                      refine x_iload (x := 0) rfl rfl ?_
                      refine x_aloadn (x := 98) rfl rfl ?_
                      refine x_getR (b := 32) 0 0 rfl f_0_57 rfl (congrArg Prod.fst (F.1 98 (0, 16) rfl rfl)) (F.2.1 12544 32 rfl rfl) ?_
                      refine x_getR (b := 49) 1 8 rfl f_0_120 rfl (congrArg Prod.fst (F.1 32 (1, 20) rfl rfl)) (F.2.1 4104 49 rfl rfl) ?_
                      refine y_getI (v := 0) 8 3 rfl f_0_124 rfl (congrArg Prod.fst (F.1 49 (8, 4) rfl rfl)) (F.2.2.1 6275 0 rfl rfl) ?_
                      refine x_icge (tgt := 52) rfl rfl (br_t (by decide) ?_)
                      refine x_iconst (v := 0) rfl ki_0 ?_
                      refine x_istore (ls' := [(5, .int 0), (0, .ref 98), (1, .ref 51), (2, .int 3), (3, .ref 103), (4, .int (-1))]) rfl rfl rfl ?_
                      refine x_iload (x := 0) rfl rfl ?_
                      refine x_aloadn (x := 51) rfl rfl ?_
                      refine y_getI (v := 0) 8 3 rfl f_0_124 rfl (congrArg Prod.fst (F.1 51 (8, 4) rfl rfl)) (F.2.2.1 6531 0 rfl rfl) ?_
                      refine x_icge (tgt := 161) rfl rfl (br_t (by decide) ?_)
                      refine x_vret rfl rfl ?_
                      show jX m_X0_readHouses 97 0 0 86 [(3, .int 0), (0, .ref 98), (1, .int 0), (2, .int a3)] [] _ 0 0 _
                      refine x_iconst (v := 0) rfl ki_0 ?_
                      refine x_istore (ls' := [(4, .int 0), (3, .int 0), (0, .ref 98), (1, .int 0), (2, .int a3)]) rfl rfl rfl ?_
                      refine x_iload (x := 0) rfl rfl ?_
                      refine x_iloadn (x := 0) rfl rfl ?_
                      refine x_icge (tgt := 172) rfl rfl (br_t (by decide) ?_)
                      refine x_vret rfl rfl ?_
                      show jX m_X0_turnTo 98 0 0 12 [(0, .ref 98), (1, .int 0), (2, .int a3)] [] _ 0 0 _
                      refine x_vret rfl rfl ?_
                      show jX m_X4_partOut 99 0 0 71 [(4, .int 0), (3, .int 0), (0, .ref 107), (1, .int a1), (2, .int a3)] [] _ 0 0 _
                      refine x_lconst (v := 0) rfl kl_0 ?_
                      refine x_lstore (ls' := [(5, .long 0), (4, .int 0), (3, .int 0), (0, .ref 107), (1, .int a1), (2, .int a3)]) rfl rfl rfl ?_
                      refine x_iconst (v := 0) rfl ki_0 ?_
                      refine x_istore (ls' := [(7, .int 0), (5, .long 0), (4, .int 0), (3, .int 0), (0, .ref 107), (1, .int a1), (2, .int a3)]) rfl rfl rfl ?_
                      refine x_iload (x := 0) rfl rfl ?_
                      refine x_aloadn (x := 107) rfl rfl ?_
                      refine x_inv (N := m_X4_houses) (As := []) (b := 107) (st := [.int 0]) (d' := 98) (mc := 0) (ms := 0) (host := "") 4 rfl t_X4_houses ⟨Or.inl q_4_107, i_X4_houses.1, i_X4_houses.2⟩ ⟨by decide, rfl⟩ (congrArg Prod.fst (F.1 107 (4, 18) rfl rfl)) rfl (by decide) rfl rfl ⟨by decide, by decide⟩ (jC.of rfl k_X4_houses rfl ?_)
                      show jX m_X4_houses 98 0 0 0 [(0, .ref 107)] [] _ 0 0 _
                      refine x_bipush (v := 40) rfl kb_40 ?_
                      refine x_aloadn (x := 107) rfl rfl ?_
                      refine x_getR (b := 32) 4 0 rfl f_4_59 rfl (congrArg Prod.fst (F.1 107 (4, 18) rfl rfl)) (F.2.1 13696 32 rfl rfl) ?_
                      refine x_getR (b := 49) 1 8 rfl f_4_71 rfl (congrArg Prod.fst (F.1 32 (1, 20) rfl rfl)) (F.2.1 4104 49 rfl rfl) ?_
                      refine y_getI (v := 0) 8 3 rfl f_4_77 rfl (congrArg Prod.fst (F.1 49 (8, 4) rfl rfl)) (F.2.2.1 6275 0 rfl rfl) ?_
                      refine x_inst (N := m_J9_min_7cf53) (As := [.int 40, .int 0]) (st := []) (d' := 97) (mc := 0) (ms := 0) (host := "") rfl t_J9_min_7cf53 ⟨Or.inl q_4_82, s_J9_min_7cf53⟩ rfl (by decide) rfl rfl ⟨by decide, by decide⟩ (jC.of rfl k_J9_min_7cf53 rfl ?_)
                      show jX m_J9_min_7cf53 97 0 0 0 [(0, .int 40), (1, .int 0)] [] _ 0 0 _
                      refine x_iloadn (x := 40) rfl rfl ?_
                      refine x_iloadn (x := 0) rfl rfl ?_
                      refine x_icgt (tgt := 9) rfl rfl (br_t (by decide) ?_)
                      refine x_iloadn (x := 0) rfl rfl ?_
                      refine x_iret rfl rfl ?_
                      show jX m_X4_houses 98 0 0 15 [(0, .ref 107)] [.int 0] _ 0 0 _
                      refine x_iret rfl rfl ?_
                      show jX m_X4_partOut 99 0 0 83 [(7, .int 0), (5, .long 0), (4, .int 0), (3, .int 0), (0, .ref 107), (1, .int a1), (2, .int a3)] [.int 0, .int 0] _ 0 0 _
                      refine x_icge (tgt := 187) rfl rfl (br_t (by decide) ?_)
                      refine x_aloadn (x := 107) rfl rfl ?_
                      refine x_iload (x := 0) rfl rfl ?_
                      refine x_lload (x := 0) rfl rfl ?_
                      refine x_inv (N := m_X4_share) (As := [.int 0, .long 0]) (b := 107) (st := []) (d' := 98) (mc := 0) (ms := 0) (host := "") 4 rfl t_X4_share ⟨Or.inl q_4_123, i_X4_share.1, i_X4_share.2⟩ ⟨by decide, rfl⟩ (congrArg Prod.fst (F.1 107 (4, 18) rfl rfl)) rfl (by decide) rfl rfl ⟨by decide, by decide⟩ (jC.of rfl k_X4_share rfl ?_)
                      show jX m_X4_share 98 0 0 0 [(0, .ref 107), (1, .int 0), (2, .long 0)] [] _ 0 0 _
                      refine x_lloadn (x := 0) rfl rfl ?_
                      refine x_lconst (v := 0) rfl kl_0 ?_
                      refine y_lcmp (v := 0) rfl (by decide) ?_
                      refine x_ifne (tgt := 10) rfl rfl (bn_f (by decide) ?_)
                      refine x_lconst (v := 0) rfl kl_0 ?_
                      refine x_goto (tgt := 12) rfl rfl ?_
                      refine x_lstore (ls' := [(4, .long 0), (0, .ref 107), (1, .int 0), (2, .long 0)]) rfl rfl rfl ?_
                      refine x_iconst (v := 0) rfl ki_0 ?_
                      refine x_istore (ls' := [(6, .int 0), (4, .long 0), (0, .ref 107), (1, .int 0), (2, .long 0)]) rfl rfl rfl ?_
                      refine x_iload (x := 0) rfl rfl ?_
                      refine x_aloadn (x := 107) rfl rfl ?_
                      refine x_inv (N := m_X4_houses) (As := []) (b := 107) (st := [.int 0]) (d' := 97) (mc := 0) (ms := 0) (host := "") 4 rfl t_X4_houses ⟨Or.inl q_4_107, i_X4_houses.1, i_X4_houses.2⟩ ⟨by decide, rfl⟩ (congrArg Prod.fst (F.1 107 (4, 18) rfl rfl)) rfl (by decide) rfl rfl ⟨by decide, by decide⟩ (jC.of rfl k_X4_houses rfl ?_)
                      show jX m_X4_houses 97 0 0 0 [(0, .ref 107)] [] _ 0 0 _
                      refine x_bipush (v := 40) rfl kb_40 ?_
                      refine x_aloadn (x := 107) rfl rfl ?_
                      refine x_getR (b := 32) 4 0 rfl f_4_59 rfl (congrArg Prod.fst (F.1 107 (4, 18) rfl rfl)) (F.2.1 13696 32 rfl rfl) ?_
                      refine x_getR (b := 49) 1 8 rfl f_4_71 rfl (congrArg Prod.fst (F.1 32 (1, 20) rfl rfl)) (F.2.1 4104 49 rfl rfl) ?_
                      refine y_getI (v := 0) 8 3 rfl f_4_77 rfl (congrArg Prod.fst (F.1 49 (8, 4) rfl rfl)) (F.2.2.1 6275 0 rfl rfl) ?_
                      refine x_inst (N := m_J9_min_7cf53) (As := [.int 40, .int 0]) (st := []) (d' := 96) (mc := 0) (ms := 0) (host := "") rfl t_J9_min_7cf53 ⟨Or.inl q_4_82, s_J9_min_7cf53⟩ rfl (by decide) rfl rfl ⟨by decide, by decide⟩ (jC.of rfl k_J9_min_7cf53 rfl ?_)
                      show jX m_J9_min_7cf53 96 0 0 0 [(0, .int 40), (1, .int 0)] [] _ 0 0 _
                      refine x_iloadn (x := 40) rfl rfl ?_
                      refine x_iloadn (x := 0) rfl rfl ?_
                      refine x_icgt (tgt := 9) rfl rfl (br_t (by decide) ?_)
                      refine x_iloadn (x := 0) rfl rfl ?_
                      refine x_iret rfl rfl ?_
                      show jX m_X4_houses 97 0 0 15 [(0, .ref 107)] [.int 0] _ 0 0 _
                      refine x_iret rfl rfl ?_
                      show jX m_X4_share 98 0 0 23 [(6, .int 0), (4, .long 0), (0, .ref 107), (1, .int 0), (2, .long 0)] [.int 0, .int 0] _ 0 0 _
                      refine x_icge (tgt := 113) rfl rfl (br_t (by decide) ?_)
                      refine x_iconst (v := 0) rfl ki_0 ?_
                      refine x_istore (ls' := [(6, .int 0), (4, .long 0), (0, .ref 107), (1, .int 0), (2, .long 0)]) rfl rfl rfl ?_
                      refine x_iload (x := 0) rfl rfl ?_
                      refine x_bipush (v := 40) rfl kb_40 ?_
                      refine x_icge (tgt := 175) rfl rfl (br_f (by decide) ?_)
                      refine x_lload (x := 0) rfl rfl ?_
                      refine x_lconst (v := 0) rfl kl_0 ?_
                      refine y_lcmp (v := 0) rfl (by decide) ?_
                      refine x_ifle (tgt := 175) rfl rfl (br_t (by decide) ?_)
                      refine x_vret rfl rfl ?_
                      show jX m_X4_partOut 99 0 0 195 [(7, .int 0), (5, .long 0), (4, .int 0), (3, .int 0), (0, .ref 107), (1, .int a1), (2, .int a3)] [] _ 0 0 _
                      refine x_iconst (v := 0) rfl ki_0 ?_
                      refine x_istore (ls' := [(7, .int 0), (5, .long 0), (4, .int 0), (3, .int 0), (0, .ref 107), (1, .int a1), (2, .int a3)]) rfl rfl rfl ?_
                      refine x_iload (x := 0) rfl rfl ?_
                      refine x_aloadn (x := 107) rfl rfl ?_
                      refine x_inv (N := m_X4_houses) (As := []) (b := 107) (st := [.int 0]) (d' := 98) (mc := 0) (ms := 0) (host := "") 4 rfl t_X4_houses ⟨Or.inl q_4_107, i_X4_houses.1, i_X4_houses.2⟩ ⟨by decide, rfl⟩ (congrArg Prod.fst (F.1 107 (4, 18) rfl rfl)) rfl (by decide) rfl rfl ⟨by decide, by decide⟩ (jC.of rfl k_X4_houses rfl ?_)
                      show jX m_X4_houses 98 0 0 0 [(0, .ref 107)] [] _ 0 0 _
                      refine x_bipush (v := 40) rfl kb_40 ?_
                      refine x_aloadn (x := 107) rfl rfl ?_
                      refine x_getR (b := 32) 4 0 rfl f_4_59 rfl (congrArg Prod.fst (F.1 107 (4, 18) rfl rfl)) (F.2.1 13696 32 rfl rfl) ?_
                      refine x_getR (b := 49) 1 8 rfl f_4_71 rfl (congrArg Prod.fst (F.1 32 (1, 20) rfl rfl)) (F.2.1 4104 49 rfl rfl) ?_
                      refine y_getI (v := 0) 8 3 rfl f_4_77 rfl (congrArg Prod.fst (F.1 49 (8, 4) rfl rfl)) (F.2.2.1 6275 0 rfl rfl) ?_
                      refine x_inst (N := m_J9_min_7cf53) (As := [.int 40, .int 0]) (st := []) (d' := 97) (mc := 0) (ms := 0) (host := "") rfl t_J9_min_7cf53 ⟨Or.inl q_4_82, s_J9_min_7cf53⟩ rfl (by decide) rfl rfl ⟨by decide, by decide⟩ (jC.of rfl k_J9_min_7cf53 rfl ?_)
                      show jX m_J9_min_7cf53 97 0 0 0 [(0, .int 40), (1, .int 0)] [] _ 0 0 _
                      refine x_iloadn (x := 40) rfl rfl ?_
                      refine x_iloadn (x := 0) rfl rfl ?_
                      refine x_icgt (tgt := 9) rfl rfl (br_t (by decide) ?_)
                      refine x_iloadn (x := 0) rfl rfl ?_
                      refine x_iret rfl rfl ?_
                      show jX m_X4_houses 98 0 0 15 [(0, .ref 107)] [.int 0] _ 0 0 _
                      refine x_iret rfl rfl ?_
                      show jX m_X4_partOut 99 0 0 204 [(7, .int 0), (5, .long 0), (4, .int 0), (3, .int 0), (0, .ref 107), (1, .int a1), (2, .int a3)] [.int 0, .int 0] _ 0 0 _
                      refine x_icge (tgt := 275) rfl rfl (br_t (by decide) ?_)
                      refine x_vret rfl rfl ?_
                      show jX m_X11_owe 100 0 0 54 [(0, .ref 31), (1, .int a1), (2, .int a2), (3, .int a3)] [] _ 0 0 _
                      refine x_iloadn (x := a2) rfl rfl ?_
                      refine x_iconst (v := (-1)) rfl ki_m1 ?_
                      refine x_icne (tgt := 69) rfl rfl (ti_ne (show (a2 : Int32).toInt = a2.toInt from rfl) (show ((-1) : Int32).toInt = (-1) by decide) (bn_t c5 ?_))
                      refine x_aloadn (x := 31) rfl rfl ?_
                      refine x_getR (b := 107) 11 8 rfl f_11_75 rfl (congrArg Prod.fst (F.1 31 (11, 13) rfl rfl)) (F.2.1 3976 107 rfl rfl) ?_
                      refine x_getR (b := 108) 4 3 rfl f_11_449 rfl (congrArg Prod.fst (F.1 107 (4, 18) rfl rfl)) (F.2.1 13699 108 rfl rfl) ?_
                      refine x_iloadn (x := a2) rfl rfl ?_
                      refine y_iald (v := 0) (N := 40) a2.toNatClampNeg rfl (F.1 108 (100, 40) rfl rfl) (vpi (by omega)) rfl (F.2.2.2.1 108 rfl rfl _).1 ?_
                      refine x_iret rfl rfl ?_
                      exact jqe (show sp_owe a1 a2 a3 = 0 by unfold sp_owe; (repeat' split) <;> first | rfl | (exfalso; omega)) (hQ _ (by repeat (first | exact FM | refine jFb_si rfl ?_ | refine jFb_sl rfl ?_ | refine jFb_ci rfl ?_ | refine jFb_cl rfl ?_ | refine jFb_sr rfl ?_)) (by repeat (first | exact O | refine jOl_si rfl ?_ | refine jOl_sl rfl ?_ | refine jOl_ci rfl ?_ | refine jOl_cl rfl ?_ | refine jOl_sr rfl ?_)))
set_option maxRecDepth 100000 in
set_option maxHeartbeats 40000000 in
theorem pm_owe (a1 a2 a3 : Int32) {xs : Nat → Int32} {h : jH} {Q : Option Value → jH → Prop} (F : jFb 125 h) (O : jOl 7 xs h) (hQ : ∀ h', jOl 7 xs h' → Q (some (.int (sp_owe a1 a2 a3))) h') : jC m_X12_owe 100 0 0 [.ref 125, .int a1, .int a2, .int a3] h Q := by
  refine jC.of rfl k_X12_owe rfl ?_
  show jX m_X12_owe 100 0 0 0 [(0, .ref 125), (1, .int a1), (2, .int a2), (3, .int a3)] [] _ 0 0 _
  refine x_aloadn (x := 125) rfl rfl ?_
  refine x_iconst (v := 0) rfl ki_0 ?_
  refine x_putI 12 0 rfl f_12_180 rfl (jfin_no TX12 RX12 92 rfl rfl) (congrArg Prod.fst (F.1 125 (12, 92) rfl rfl)) rfl ?_
  refine x_aloadn (x := 125) rfl rfl ?_
  refine x_iloadn (x := a1) rfl rfl ?_
  refine x_inv (N := m_X12_isLevy) (As := [.int a1]) (b := 125) (st := []) (d' := 99) (mc := 0) (ms := 0) (host := "") 12 rfl t_X12_isLevy ⟨Or.inl q_12_824, i_X12_isLevy.1, i_X12_isLevy.2⟩ ⟨by decide, rfl⟩ (congrArg Prod.fst (F.1 125 (12, 92) rfl rfl)) rfl (by decide) rfl rfl ⟨by decide, by decide⟩ (jC.of rfl k_X12_isLevy rfl ?_)
  show jX m_X12_isLevy 99 0 0 0 [(0, .ref 125), (1, .int a1)] [] _ 0 0 _
  refine x_iloadn (x := a1) rfl rfl ?_
  refine x_i2l rfl ?_
  refine x_lconst (v := 0) rfl kl_0 ?_
  refine x_aloadn (x := 125) rfl rfl ?_
  refine x_getR (b := 126) 12 2 rfl f_12_8 rfl (congrArg Prod.fst (F.1 125 (12, 92) rfl rfl)) (F.2.1 16002 126 rfl rfl) ?_
  refine x_bipush (v := 11) rfl kb_11 ?_
  refine y_iald (v := 0) (N := 50660) 11 rfl (F.1 126 (100, 50660) rfl rfl) (jinb_of (by decide)) (by decide) (F.2.2.2.1 126 rfl rfl 11).1 ?_
  refine y_i2l (v := 0) rfl (by decide) ?_
  refine x_lconst (v := 1) rfl kl_1 ?_
  refine y_lsub (v := (-1)) rfl (by decide) ?_
  refine x_inst (N := m_X12_in) (As := [.long (a1.toInt64), .long 0, .long (-1)]) (st := []) (d' := 98) (mc := 0) (ms := 0) (host := "") rfl t_X12_in ⟨Or.inl q_12_188, s_X12_in⟩ rfl (by decide) rfl rfl ⟨by decide, by decide⟩ (c_X12_in (jt_l _) (by decide) (by decide) ?_)
  show jX m_X12_isLevy 99 0 0 16 [(0, .ref 125), (1, .int a1)] [.int (jp (0 ≤ a1.toInt ∧ a1.toInt ≤ (-1)))] _ 0 0 _
  refine x_zret rfl rfl (by first | decide | exact jp_01 _) ?_
  show jX m_X12_owe 100 0 0 10 [(0, .ref 125), (1, .int a1), (2, .int a2), (3, .int a3)] [.int (jp (0 ≤ a1.toInt ∧ a1.toInt ≤ (-1)))] _ 0 0 _
  refine x_ifeq (tgt := 51) rfl rfl (jpe ⟨fun c1 => ?_, fun c1 => ?_⟩)
  ·
    refine x_iconst (v := (-1)) rfl ki_m1 ?_
    refine x_iret rfl rfl ?_
    exact jqe (show sp_owe a1 a2 a3 = (-1) by unfold sp_owe; (repeat' split) <;> first | rfl | (exfalso; omega)) (hQ _ (by repeat (first | exact O | refine jOl_si rfl ?_ | refine jOl_sl rfl ?_ | refine jOl_ci rfl ?_ | refine jOl_cl rfl ?_ | refine jOl_sr rfl ?_)))
  ·
    refine x_iloadn (x := a2) rfl rfl ?_
    refine x_iconst (v := (-1)) rfl ki_m1 ?_
    refine x_iceq (tgt := 26) rfl rfl (ti_eq (show (a2 : Int32).toInt = a2.toInt from rfl) (show ((-1) : Int32).toInt = (-1) by decide) ⟨fun c2 => ?_, fun c2 => ?_⟩)
    ·
      refine x_iloadn (x := a3) rfl rfl ?_
      refine x_inst (N := m_X12_isDay) (As := [.int a3]) (st := []) (d' := 99) (mc := 0) (ms := 0) (host := "") rfl t_X12_isDay ⟨Or.inl q_12_273, s_X12_isDay⟩ rfl (by decide) rfl rfl ⟨by decide, by decide⟩ (c_X12_isDay (x := a3) ?_)
      show jX m_X12_owe 100 0 0 30 [(0, .ref 125), (1, .int a1), (2, .int a2), (3, .int a3)] [.int (jp (0 ≤ a3.toInt ∧ a3.toInt ≤ 146399))] _ 0 0 _
      refine x_ifeq (tgt := 51) rfl rfl (jpe ⟨fun c3 => ?_, fun c3 => ?_⟩)
      ·
        refine x_iconst (v := (-1)) rfl ki_m1 ?_
        refine x_iret rfl rfl ?_
        exact jqe (show sp_owe a1 a2 a3 = (-1) by unfold sp_owe; (repeat' split) <;> first | rfl | (exfalso; omega)) (hQ _ (by repeat (first | exact O | refine jOl_si rfl ?_ | refine jOl_sl rfl ?_ | refine jOl_ci rfl ?_ | refine jOl_cl rfl ?_ | refine jOl_sr rfl ?_)))
      ·
        refine x_aloadn (x := 125) rfl rfl ?_
        refine x_getR (b := 126) 12 2 rfl f_12_8 rfl (congrArg Prod.fst (F.1 125 (12, 92) rfl rfl)) (F.2.1 16002 126 rfl rfl) ?_
        refine x_ldcw (v := 48300) rfl z_12_820 ?_
        refine x_iconst (v := 4) rfl ki_4 ?_
        refine x_iloadn (x := a1) rfl rfl ?_
        refine x_imul rfl ?_
        refine x_iadd rfl ?_
        refine x_iconst (v := 3) rfl ki_3 ?_
        refine x_iadd rfl ?_
        refine y_iald (v := 0) (N := 50660) ((48300 + (4 * a1)) + 3).toNatClampNeg rfl (F.1 126 (100, 50660) rfl rfl) (vpi (by omega)) rfl (F.2.2.2.1 126 rfl rfl _).1 ?_
        refine x_iloadn (x := a3) rfl rfl ?_
        refine x_icle (tgt := 53) rfl rfl (ti_le (show (0 : Int32).toInt = 0 by decide) (show (a3 : Int32).toInt = a3.toInt from rfl) ⟨fun c4 => ?_, fun c4 => ?_⟩)
        ·
          refine x_aloadn (x := 125) rfl rfl ?_
          refine x_iloadn (x := a3) rfl rfl ?_
          refine x_inv (N := m_X12_find) (As := [.int a3]) (b := 125) (st := []) (d' := 99) (mc := 0) (ms := 0) (host := "") 12 rfl t_X12_find ⟨Or.inl q_12_393, i_X12_find.1, i_X12_find.2⟩ ⟨by decide, rfl⟩ (congrArg Prod.fst (F.1 125 (12, 92) rfl rfl)) rfl (by decide) rfl rfl ⟨by decide, by decide⟩ (jC.of rfl k_X12_find rfl ?_)
          show jX m_X12_find 99 0 0 0 [(0, .ref 125), (1, .int a3)] [] _ 0 0 _
          refine x_aloadn (x := 125) rfl rfl ?_
          refine x_iloadn (x := a3) rfl rfl ?_
          refine x_putI 12 28 rfl f_12_377 rfl (jfin_no TX12 RX12 92 rfl rfl) (congrArg Prod.fst (F.1 125 (12, 92) rfl rfl)) rfl ?_
          refine x_aloadn (x := 125) rfl rfl ?_
          refine x_iconst (v := 0) rfl ki_0 ?_
          refine x_putI 12 31 rfl f_12_380 rfl (jfin_no TX12 RX12 92 rfl rfl) (congrArg Prod.fst (F.1 125 (12, 92) rfl rfl)) rfl ?_
          refine x_aloadn (x := 125) rfl rfl ?_
          refine x_iconst (v := (-1)) rfl ki_m1 ?_
          refine x_putI 12 57 rfl f_12_111 rfl (jfin_no TX12 RX12 92 rfl rfl) (congrArg Prod.fst (F.1 125 (12, 92) rfl rfl)) rfl ?_
          refine x_iconst (v := 0) rfl ki_0 ?_
          refine x_istoren (ls' := [(2, .int 0), (0, .ref 125), (1, .int a3)]) rfl rfl rfl ?_
          refine x_iloadn (x := 0) rfl rfl ?_
          refine x_iconst (v := 3) rfl ki_3 ?_
          refine x_aloadn (x := 125) rfl rfl ?_
          refine x_getR (b := 126) 12 2 rfl f_12_8 rfl (congrArg Prod.fst (F.1 125 (12, 92) rfl rfl)) (F.2.1 16002 126 rfl rfl) ?_
          refine x_iconst (v := 0) rfl ki_0 ?_
          refine y_iald (v := 0) (N := 50660) 0 rfl (F.1 126 (100, 50660) rfl rfl) (jinb_of (by decide)) (by decide) (F.2.2.2.1 126 rfl rfl 0).1 ?_
          refine y_imul (v := 0) rfl (by decide) ?_
          refine x_icge (tgt := 65) rfl rfl (br_t (by decide) ?_)
          refine x_iconst (v := 0) rfl ki_0 ?_
          refine x_istoren (ls' := [(2, .int 0), (0, .ref 125), (1, .int a3)]) rfl rfl rfl ?_
          refine x_iloadn (x := 0) rfl rfl ?_
          refine x_aloadn (x := 125) rfl rfl ?_
          refine x_getR (b := 126) 12 2 rfl f_12_8 rfl (congrArg Prod.fst (F.1 125 (12, 92) rfl rfl)) (F.2.1 16002 126 rfl rfl) ?_
          refine x_iconst (v := 2) rfl ki_2 ?_
          refine y_iald (v := 0) (N := 50660) 2 rfl (F.1 126 (100, 50660) rfl rfl) (jinb_of (by decide)) (by decide) (F.2.2.2.1 126 rfl rfl 2).1 ?_
          refine x_icge (tgt := 227) rfl rfl (br_t (by decide) ?_)
          refine x_vret rfl rfl ?_
          show jX m_X12_owe 100 0 0 58 [(0, .ref 125), (1, .int a1), (2, .int a2), (3, .int a3)] [] _ 0 0 _
          refine x_aloadn (x := 125) rfl rfl ?_
          refine x_iloadn (x := a1) rfl rfl ?_
          refine x_inv (N := m_X12_partLevy) (As := [.int a1]) (b := 125) (st := []) (d' := 99) (mc := 0) (ms := 0) (host := "") 12 rfl t_X12_partLevy ⟨Or.inl q_12_827, i_X12_partLevy.1, i_X12_partLevy.2⟩ ⟨by decide, rfl⟩ (congrArg Prod.fst (F.1 125 (12, 92) rfl rfl)) rfl (by decide) rfl rfl ⟨by decide, by decide⟩ (jC.of rfl k_X12_partLevy rfl ?_)
          show jX m_X12_partLevy 99 0 0 0 [(0, .ref 125), (1, .int a1)] [] _ 0 0 _
          refine x_ldcw (v := 48300) rfl z_12_820 ?_
          refine x_iconst (v := 4) rfl ki_4 ?_
          refine x_iloadn (x := a1) rfl rfl ?_
          refine x_imul rfl ?_
          refine x_iadd rfl ?_
          refine x_istoren (ls' := [(2, .int (48300 + (4 * a1))), (0, .ref 125), (1, .int a1)]) rfl rfl rfl ?_
          refine x_aloadn (x := 125) rfl rfl ?_
          refine x_getR (b := 126) 12 2 rfl f_12_8 rfl (congrArg Prod.fst (F.1 125 (12, 92) rfl rfl)) (F.2.1 16002 126 rfl rfl) ?_
          refine x_iloadn (x := 48300 + (4 * a1)) rfl rfl ?_
          refine y_iald (v := 0) (N := 50660) (48300 + (4 * a1)).toNatClampNeg rfl (F.1 126 (100, 50660) rfl rfl) (vpi (by omega)) rfl (F.2.2.2.1 126 rfl rfl _).1 ?_
          refine x_istoren (ls' := [(3, .int 0), (2, .int (48300 + (4 * a1))), (0, .ref 125), (1, .int a1)]) rfl rfl rfl ?_
          refine x_aloadn (x := 125) rfl rfl ?_
          refine x_getR (b := 126) 12 2 rfl f_12_8 rfl (congrArg Prod.fst (F.1 125 (12, 92) rfl rfl)) (F.2.1 16002 126 rfl rfl) ?_
          refine x_iloadn (x := 48300 + (4 * a1)) rfl rfl ?_
          refine x_iconst (v := 1) rfl ki_1 ?_
          refine x_iadd rfl ?_
          refine y_iald (v := 0) (N := 50660) ((48300 + (4 * a1)) + 1).toNatClampNeg rfl (F.1 126 (100, 50660) rfl rfl) (vpi (by omega)) rfl (F.2.2.2.1 126 rfl rfl _).1 ?_
          refine x_sipush (v := 366) rfl ks_366 ?_
          refine y_imul (v := 0) rfl (by decide) ?_
          refine x_istore (ls' := [(4, .int 0), (3, .int 0), (2, .int (48300 + (4 * a1))), (0, .ref 125), (1, .int a1)]) rfl rfl rfl ?_
          refine x_aloadn (x := 125) rfl rfl ?_
          refine x_getR (b := 126) 12 2 rfl f_12_8 rfl (congrArg Prod.fst (F.1 125 (12, 92) rfl rfl)) (F.2.1 16002 126 rfl rfl) ?_
          refine x_bipush (v := 7) rfl kb_7 ?_
          refine y_iald (v := 0) (N := 50660) 7 rfl (F.1 126 (100, 50660) rfl rfl) (jinb_of (by decide)) (by decide) (F.2.2.2.1 126 rfl rfl 7).1 ?_
          refine x_istore (ls' := [(5, .int 0), (4, .int 0), (3, .int 0), (2, .int (48300 + (4 * a1))), (0, .ref 125), (1, .int a1)]) rfl rfl rfl ?_
          refine x_aloadn (x := 125) rfl rfl ?_
          refine x_iload (x := 0) rfl rfl ?_
          refine x_iconst (v := 1) rfl ki_1 ?_
          refine x_inv (N := m_X12_findHouses) (As := [.int 0, .int 1]) (b := 125) (st := []) (d' := 98) (mc := 0) (ms := 0) (host := "") 12 rfl t_X12_findHouses ⟨Or.inl q_12_694, i_X12_findHouses.1, i_X12_findHouses.2⟩ ⟨by decide, rfl⟩ (congrArg Prod.fst (F.1 125 (12, 92) rfl rfl)) rfl (by decide) rfl rfl ⟨by decide, by decide⟩ (jC.of rfl k_X12_findHouses rfl ?_)
          show jX m_X12_findHouses 98 0 0 0 [(0, .ref 125), (1, .int 0), (2, .int 1)] [] _ 0 0 _
          refine x_aloadn (x := 125) rfl rfl ?_
          refine x_getR (b := 126) 12 2 rfl f_12_8 rfl (congrArg Prod.fst (F.1 125 (12, 92) rfl rfl)) (F.2.1 16002 126 rfl rfl) ?_
          refine x_bipush (v := 7) rfl kb_7 ?_
          refine y_iald (v := 0) (N := 50660) 7 rfl (F.1 126 (100, 50660) rfl rfl) (jinb_of (by decide)) (by decide) (F.2.2.2.1 126 rfl rfl 7).1 ?_
          refine x_istoren (ls' := [(3, .int 0), (0, .ref 125), (1, .int 0), (2, .int 1)]) rfl rfl rfl ?_
          refine x_iconst (v := 0) rfl ki_0 ?_
          refine x_istore (ls' := [(4, .int 0), (3, .int 0), (0, .ref 125), (1, .int 0), (2, .int 1)]) rfl rfl rfl ?_
          refine x_iload (x := 0) rfl rfl ?_
          refine x_iloadn (x := 0) rfl rfl ?_
          refine x_icge (tgt := 72) rfl rfl (br_t (by decide) ?_)
          refine x_iconst (v := 0) rfl ki_0 ?_
          refine x_istore (ls' := [(4, .int 0), (3, .int 0), (0, .ref 125), (1, .int 0), (2, .int 1)]) rfl rfl rfl ?_
          refine x_iload (x := 0) rfl rfl ?_
          refine x_iloadn (x := 0) rfl rfl ?_
          refine x_icge (tgt := 323) rfl rfl (br_t (by decide) ?_)
          refine x_vret rfl rfl ?_
          show jX m_X12_partLevy 99 0 0 45 [(5, .int 0), (4, .int 0), (3, .int 0), (2, .int (48300 + (4 * a1))), (0, .ref 125), (1, .int a1)] [] _ 0 0 _
          refine x_lconst (v := 0) rfl kl_0 ?_
          refine x_lstore (ls' := [(6, .long 0), (5, .int 0), (4, .int 0), (3, .int 0), (2, .int (48300 + (4 * a1))), (0, .ref 125), (1, .int a1)]) rfl rfl rfl ?_
          refine x_iconst (v := 0) rfl ki_0 ?_
          refine x_istore (ls' := [(8, .int 0), (6, .long 0), (5, .int 0), (4, .int 0), (3, .int 0), (2, .int (48300 + (4 * a1))), (0, .ref 125), (1, .int a1)]) rfl rfl rfl ?_
          refine x_iload (x := 0) rfl rfl ?_
          refine x_iload (x := 0) rfl rfl ?_
          refine x_icge (tgt := 171) rfl rfl (br_t (by decide) ?_)
          refine x_lload (x := 0) rfl rfl ?_
          refine x_lconst (v := 0) rfl kl_0 ?_
          refine y_lcmp (v := 0) rfl (by decide) ?_
          refine x_ifne (tgt := 182) rfl rfl (bn_f (by decide) ?_)
          refine x_lconst (v := 0) rfl kl_0 ?_
          refine x_goto (tgt := 191) rfl rfl ?_
          refine x_lstore (ls' := [(8, .long 0), (6, .long 0), (5, .int 0), (4, .int 0), (3, .int 0), (2, .int (48300 + (4 * a1))), (0, .ref 125), (1, .int a1)]) rfl rfl rfl ?_
          refine x_iconst (v := 0) rfl ki_0 ?_
          refine x_istore (ls' := [(10, .int 0), (8, .long 0), (6, .long 0), (5, .int 0), (4, .int 0), (3, .int 0), (2, .int (48300 + (4 * a1))), (0, .ref 125), (1, .int a1)]) rfl rfl rfl ?_
          refine x_iload (x := 0) rfl rfl ?_
          refine x_iload (x := 0) rfl rfl ?_
          refine x_icge (tgt := 293) rfl rfl (br_t (by decide) ?_)
          refine x_lload (x := 0) rfl rfl ?_
          refine x_lconst (v := 0) rfl kl_0 ?_
          refine y_lcmp (v := 0) rfl (by decide) ?_
          refine x_ifle (tgt := 393) rfl rfl (br_t (by decide) ?_)
          refine x_iconst (v := 0) rfl ki_0 ?_
          refine x_istore (ls' := [(10, .int 0), (8, .long 0), (6, .long 0), (5, .int 0), (4, .int 0), (3, .int 0), (2, .int (48300 + (4 * a1))), (0, .ref 125), (1, .int a1)]) rfl rfl rfl ?_
          refine x_iload (x := 0) rfl rfl ?_
          refine x_iload (x := 0) rfl rfl ?_
          refine x_icge (tgt := 496) rfl rfl (br_t (by decide) ?_)
          refine x_vret rfl rfl ?_
          show jX m_X12_owe 100 0 0 63 [(0, .ref 125), (1, .int a1), (2, .int a2), (3, .int a3)] [] _ 0 0 _
          refine x_lconst (v := 0) rfl kl_0 ?_
          refine x_lstore (ls' := [(4, .long 0), (0, .ref 125), (1, .int a1), (2, .int a2), (3, .int a3)]) rfl rfl rfl ?_
          refine x_iconst (v := 0) rfl ki_0 ?_
          refine x_istore (ls' := [(6, .int 0), (4, .long 0), (0, .ref 125), (1, .int a1), (2, .int a2), (3, .int a3)]) rfl rfl rfl ?_
          refine x_iload (x := 0) rfl rfl ?_
          refine x_aloadn (x := 125) rfl rfl ?_
          refine x_getR (b := 126) 12 2 rfl f_12_8 rfl (congrArg Prod.fst (F.1 125 (12, 92) rfl rfl)) (F.2.1 16002 126 rfl rfl) ?_
          refine x_bipush (v := 7) rfl kb_7 ?_
          refine y_iald (v := 0) (N := 50660) 7 rfl (F.1 126 (100, 50660) rfl rfl) (jinb_of (by decide)) (by decide) (F.2.2.2.1 126 rfl rfl 7).1 ?_
          refine x_icge (tgt := 114) rfl rfl (br_t (by decide) ?_)
          refine x_lload (x := 0) rfl rfl ?_
          refine y_l2i (v := 0) rfl (by decide) ?_
          refine x_iret rfl rfl ?_
          exact jqe (show sp_owe a1 a2 a3 = 0 by unfold sp_owe; (repeat' split) <;> first | rfl | (exfalso; omega)) (hQ _ (by repeat (first | exact O | refine jOl_si rfl ?_ | refine jOl_sl rfl ?_ | refine jOl_ci rfl ?_ | refine jOl_cl rfl ?_ | refine jOl_sr rfl ?_)))
        ·
          refine x_iconst (v := (-1)) rfl ki_m1 ?_
          refine x_iret rfl rfl ?_
          exact jqe (show sp_owe a1 a2 a3 = (-1) by unfold sp_owe; (repeat' split) <;> first | rfl | (exfalso; omega)) (hQ _ (by repeat (first | exact O | refine jOl_si rfl ?_ | refine jOl_sl rfl ?_ | refine jOl_ci rfl ?_ | refine jOl_cl rfl ?_ | refine jOl_sr rfl ?_)))
    ·
      refine x_aloadn (x := 125) rfl rfl ?_
      refine x_iloadn (x := a2) rfl rfl ?_
      refine x_inv (N := m_X12_isHolding) (As := [.int a2]) (b := 125) (st := []) (d' := 99) (mc := 0) (ms := 0) (host := "") 12 rfl t_X12_isHolding ⟨Or.inl q_12_811, i_X12_isHolding.1, i_X12_isHolding.2⟩ ⟨by decide, rfl⟩ (congrArg Prod.fst (F.1 125 (12, 92) rfl rfl)) rfl (by decide) rfl rfl ⟨by decide, by decide⟩ (jC.of rfl k_X12_isHolding rfl ?_)
      show jX m_X12_isHolding 99 0 0 0 [(0, .ref 125), (1, .int a2)] [] _ 0 0 _
      refine x_iloadn (x := a2) rfl rfl ?_
      refine x_i2l rfl ?_
      refine x_lconst (v := 0) rfl kl_0 ?_
      refine x_aloadn (x := 125) rfl rfl ?_
      refine x_getR (b := 126) 12 2 rfl f_12_8 rfl (congrArg Prod.fst (F.1 125 (12, 92) rfl rfl)) (F.2.1 16002 126 rfl rfl) ?_
      refine x_bipush (v := 7) rfl kb_7 ?_
      refine y_iald (v := 0) (N := 50660) 7 rfl (F.1 126 (100, 50660) rfl rfl) (jinb_of (by decide)) (by decide) (F.2.2.2.1 126 rfl rfl 7).1 ?_
      refine y_i2l (v := 0) rfl (by decide) ?_
      refine x_lconst (v := 1) rfl kl_1 ?_
      refine y_lsub (v := (-1)) rfl (by decide) ?_
      refine x_inst (N := m_X12_in) (As := [.long (a2.toInt64), .long 0, .long (-1)]) (st := []) (d' := 98) (mc := 0) (ms := 0) (host := "") rfl t_X12_in ⟨Or.inl q_12_188, s_X12_in⟩ rfl (by decide) rfl rfl ⟨by decide, by decide⟩ (c_X12_in (jt_l _) (by decide) (by decide) ?_)
      show jX m_X12_isHolding 99 0 0 16 [(0, .ref 125), (1, .int a2)] [.int (jp (0 ≤ a2.toInt ∧ a2.toInt ≤ (-1)))] _ 0 0 _
      refine x_zret rfl rfl (by first | decide | exact jp_01 _) ?_
      show jX m_X12_owe 100 0 0 23 [(0, .ref 125), (1, .int a1), (2, .int a2), (3, .int a3)] [.int (jp (0 ≤ a2.toInt ∧ a2.toInt ≤ (-1)))] _ 0 0 _
      refine x_ifeq (tgt := 51) rfl rfl (jpe ⟨fun c5 => ?_, fun c5 => ?_⟩)
      ·
        refine x_iconst (v := (-1)) rfl ki_m1 ?_
        refine x_iret rfl rfl ?_
        exact jqe (show sp_owe a1 a2 a3 = (-1) by unfold sp_owe; (repeat' split) <;> first | rfl | (exfalso; omega)) (hQ _ (by repeat (first | exact O | refine jOl_si rfl ?_ | refine jOl_sl rfl ?_ | refine jOl_ci rfl ?_ | refine jOl_cl rfl ?_ | refine jOl_sr rfl ?_)))
      ·
        refine x_iloadn (x := a3) rfl rfl ?_
        refine x_inst (N := m_X12_isDay) (As := [.int a3]) (st := []) (d' := 99) (mc := 0) (ms := 0) (host := "") rfl t_X12_isDay ⟨Or.inl q_12_273, s_X12_isDay⟩ rfl (by decide) rfl rfl ⟨by decide, by decide⟩ (c_X12_isDay (x := a3) ?_)
        show jX m_X12_owe 100 0 0 30 [(0, .ref 125), (1, .int a1), (2, .int a2), (3, .int a3)] [.int (jp (0 ≤ a3.toInt ∧ a3.toInt ≤ 146399))] _ 0 0 _
        refine x_ifeq (tgt := 51) rfl rfl (jpe ⟨fun c6 => ?_, fun c6 => ?_⟩)
        ·
          refine x_iconst (v := (-1)) rfl ki_m1 ?_
          refine x_iret rfl rfl ?_
          exact jqe (show sp_owe a1 a2 a3 = (-1) by unfold sp_owe; (repeat' split) <;> first | rfl | (exfalso; omega)) (hQ _ (by repeat (first | exact O | refine jOl_si rfl ?_ | refine jOl_sl rfl ?_ | refine jOl_ci rfl ?_ | refine jOl_cl rfl ?_ | refine jOl_sr rfl ?_)))
        ·
          refine x_aloadn (x := 125) rfl rfl ?_
          refine x_getR (b := 126) 12 2 rfl f_12_8 rfl (congrArg Prod.fst (F.1 125 (12, 92) rfl rfl)) (F.2.1 16002 126 rfl rfl) ?_
          refine x_ldcw (v := 48300) rfl z_12_820 ?_
          refine x_iconst (v := 4) rfl ki_4 ?_
          refine x_iloadn (x := a1) rfl rfl ?_
          refine x_imul rfl ?_
          refine x_iadd rfl ?_
          refine x_iconst (v := 3) rfl ki_3 ?_
          refine x_iadd rfl ?_
          refine y_iald (v := 0) (N := 50660) ((48300 + (4 * a1)) + 3).toNatClampNeg rfl (F.1 126 (100, 50660) rfl rfl) (vpi (by omega)) rfl (F.2.2.2.1 126 rfl rfl _).1 ?_
          refine x_iloadn (x := a3) rfl rfl ?_
          refine x_icle (tgt := 53) rfl rfl (ti_le (show (0 : Int32).toInt = 0 by decide) (show (a3 : Int32).toInt = a3.toInt from rfl) ⟨fun c7 => ?_, fun c7 => ?_⟩)
          ·
            refine x_aloadn (x := 125) rfl rfl ?_
            refine x_iloadn (x := a3) rfl rfl ?_
            refine x_inv (N := m_X12_find) (As := [.int a3]) (b := 125) (st := []) (d' := 99) (mc := 0) (ms := 0) (host := "") 12 rfl t_X12_find ⟨Or.inl q_12_393, i_X12_find.1, i_X12_find.2⟩ ⟨by decide, rfl⟩ (congrArg Prod.fst (F.1 125 (12, 92) rfl rfl)) rfl (by decide) rfl rfl ⟨by decide, by decide⟩ (jC.of rfl k_X12_find rfl ?_)
            show jX m_X12_find 99 0 0 0 [(0, .ref 125), (1, .int a3)] [] _ 0 0 _
            refine x_aloadn (x := 125) rfl rfl ?_
            refine x_iloadn (x := a3) rfl rfl ?_
            refine x_putI 12 28 rfl f_12_377 rfl (jfin_no TX12 RX12 92 rfl rfl) (congrArg Prod.fst (F.1 125 (12, 92) rfl rfl)) rfl ?_
            refine x_aloadn (x := 125) rfl rfl ?_
            refine x_iconst (v := 0) rfl ki_0 ?_
            refine x_putI 12 31 rfl f_12_380 rfl (jfin_no TX12 RX12 92 rfl rfl) (congrArg Prod.fst (F.1 125 (12, 92) rfl rfl)) rfl ?_
            refine x_aloadn (x := 125) rfl rfl ?_
            refine x_iconst (v := (-1)) rfl ki_m1 ?_
            refine x_putI 12 57 rfl f_12_111 rfl (jfin_no TX12 RX12 92 rfl rfl) (congrArg Prod.fst (F.1 125 (12, 92) rfl rfl)) rfl ?_
            refine x_iconst (v := 0) rfl ki_0 ?_
            refine x_istoren (ls' := [(2, .int 0), (0, .ref 125), (1, .int a3)]) rfl rfl rfl ?_
            refine x_iloadn (x := 0) rfl rfl ?_
            refine x_iconst (v := 3) rfl ki_3 ?_
            refine x_aloadn (x := 125) rfl rfl ?_
            refine x_getR (b := 126) 12 2 rfl f_12_8 rfl (congrArg Prod.fst (F.1 125 (12, 92) rfl rfl)) (F.2.1 16002 126 rfl rfl) ?_
            refine x_iconst (v := 0) rfl ki_0 ?_
            refine y_iald (v := 0) (N := 50660) 0 rfl (F.1 126 (100, 50660) rfl rfl) (jinb_of (by decide)) (by decide) (F.2.2.2.1 126 rfl rfl 0).1 ?_
            refine y_imul (v := 0) rfl (by decide) ?_
            refine x_icge (tgt := 65) rfl rfl (br_t (by decide) ?_)
            refine x_iconst (v := 0) rfl ki_0 ?_
            refine x_istoren (ls' := [(2, .int 0), (0, .ref 125), (1, .int a3)]) rfl rfl rfl ?_
            refine x_iloadn (x := 0) rfl rfl ?_
            refine x_aloadn (x := 125) rfl rfl ?_
            refine x_getR (b := 126) 12 2 rfl f_12_8 rfl (congrArg Prod.fst (F.1 125 (12, 92) rfl rfl)) (F.2.1 16002 126 rfl rfl) ?_
            refine x_iconst (v := 2) rfl ki_2 ?_
            refine y_iald (v := 0) (N := 50660) 2 rfl (F.1 126 (100, 50660) rfl rfl) (jinb_of (by decide)) (by decide) (F.2.2.2.1 126 rfl rfl 2).1 ?_
            refine x_icge (tgt := 227) rfl rfl (br_t (by decide) ?_)
            refine x_vret rfl rfl ?_
            show jX m_X12_owe 100 0 0 58 [(0, .ref 125), (1, .int a1), (2, .int a2), (3, .int a3)] [] _ 0 0 _
            refine x_aloadn (x := 125) rfl rfl ?_
            refine x_iloadn (x := a1) rfl rfl ?_
            refine x_inv (N := m_X12_partLevy) (As := [.int a1]) (b := 125) (st := []) (d' := 99) (mc := 0) (ms := 0) (host := "") 12 rfl t_X12_partLevy ⟨Or.inl q_12_827, i_X12_partLevy.1, i_X12_partLevy.2⟩ ⟨by decide, rfl⟩ (congrArg Prod.fst (F.1 125 (12, 92) rfl rfl)) rfl (by decide) rfl rfl ⟨by decide, by decide⟩ (jC.of rfl k_X12_partLevy rfl ?_)
            show jX m_X12_partLevy 99 0 0 0 [(0, .ref 125), (1, .int a1)] [] _ 0 0 _
            refine x_ldcw (v := 48300) rfl z_12_820 ?_
            refine x_iconst (v := 4) rfl ki_4 ?_
            refine x_iloadn (x := a1) rfl rfl ?_
            refine x_imul rfl ?_
            refine x_iadd rfl ?_
            refine x_istoren (ls' := [(2, .int (48300 + (4 * a1))), (0, .ref 125), (1, .int a1)]) rfl rfl rfl ?_
            refine x_aloadn (x := 125) rfl rfl ?_
            refine x_getR (b := 126) 12 2 rfl f_12_8 rfl (congrArg Prod.fst (F.1 125 (12, 92) rfl rfl)) (F.2.1 16002 126 rfl rfl) ?_
            refine x_iloadn (x := 48300 + (4 * a1)) rfl rfl ?_
            refine y_iald (v := 0) (N := 50660) (48300 + (4 * a1)).toNatClampNeg rfl (F.1 126 (100, 50660) rfl rfl) (vpi (by omega)) rfl (F.2.2.2.1 126 rfl rfl _).1 ?_
            refine x_istoren (ls' := [(3, .int 0), (2, .int (48300 + (4 * a1))), (0, .ref 125), (1, .int a1)]) rfl rfl rfl ?_
            refine x_aloadn (x := 125) rfl rfl ?_
            refine x_getR (b := 126) 12 2 rfl f_12_8 rfl (congrArg Prod.fst (F.1 125 (12, 92) rfl rfl)) (F.2.1 16002 126 rfl rfl) ?_
            refine x_iloadn (x := 48300 + (4 * a1)) rfl rfl ?_
            refine x_iconst (v := 1) rfl ki_1 ?_
            refine x_iadd rfl ?_
            refine y_iald (v := 0) (N := 50660) ((48300 + (4 * a1)) + 1).toNatClampNeg rfl (F.1 126 (100, 50660) rfl rfl) (vpi (by omega)) rfl (F.2.2.2.1 126 rfl rfl _).1 ?_
            refine x_sipush (v := 366) rfl ks_366 ?_
            refine y_imul (v := 0) rfl (by decide) ?_
            refine x_istore (ls' := [(4, .int 0), (3, .int 0), (2, .int (48300 + (4 * a1))), (0, .ref 125), (1, .int a1)]) rfl rfl rfl ?_
            refine x_aloadn (x := 125) rfl rfl ?_
            refine x_getR (b := 126) 12 2 rfl f_12_8 rfl (congrArg Prod.fst (F.1 125 (12, 92) rfl rfl)) (F.2.1 16002 126 rfl rfl) ?_
            refine x_bipush (v := 7) rfl kb_7 ?_
            refine y_iald (v := 0) (N := 50660) 7 rfl (F.1 126 (100, 50660) rfl rfl) (jinb_of (by decide)) (by decide) (F.2.2.2.1 126 rfl rfl 7).1 ?_
            refine x_istore (ls' := [(5, .int 0), (4, .int 0), (3, .int 0), (2, .int (48300 + (4 * a1))), (0, .ref 125), (1, .int a1)]) rfl rfl rfl ?_
            refine x_aloadn (x := 125) rfl rfl ?_
            refine x_iload (x := 0) rfl rfl ?_
            refine x_iconst (v := 1) rfl ki_1 ?_
            refine x_inv (N := m_X12_findHouses) (As := [.int 0, .int 1]) (b := 125) (st := []) (d' := 98) (mc := 0) (ms := 0) (host := "") 12 rfl t_X12_findHouses ⟨Or.inl q_12_694, i_X12_findHouses.1, i_X12_findHouses.2⟩ ⟨by decide, rfl⟩ (congrArg Prod.fst (F.1 125 (12, 92) rfl rfl)) rfl (by decide) rfl rfl ⟨by decide, by decide⟩ (jC.of rfl k_X12_findHouses rfl ?_)
            show jX m_X12_findHouses 98 0 0 0 [(0, .ref 125), (1, .int 0), (2, .int 1)] [] _ 0 0 _
            refine x_aloadn (x := 125) rfl rfl ?_
            refine x_getR (b := 126) 12 2 rfl f_12_8 rfl (congrArg Prod.fst (F.1 125 (12, 92) rfl rfl)) (F.2.1 16002 126 rfl rfl) ?_
            refine x_bipush (v := 7) rfl kb_7 ?_
            refine y_iald (v := 0) (N := 50660) 7 rfl (F.1 126 (100, 50660) rfl rfl) (jinb_of (by decide)) (by decide) (F.2.2.2.1 126 rfl rfl 7).1 ?_
            refine x_istoren (ls' := [(3, .int 0), (0, .ref 125), (1, .int 0), (2, .int 1)]) rfl rfl rfl ?_
            refine x_iconst (v := 0) rfl ki_0 ?_
            refine x_istore (ls' := [(4, .int 0), (3, .int 0), (0, .ref 125), (1, .int 0), (2, .int 1)]) rfl rfl rfl ?_
            refine x_iload (x := 0) rfl rfl ?_
            refine x_iloadn (x := 0) rfl rfl ?_
            refine x_icge (tgt := 72) rfl rfl (br_t (by decide) ?_)
            refine x_iconst (v := 0) rfl ki_0 ?_
            refine x_istore (ls' := [(4, .int 0), (3, .int 0), (0, .ref 125), (1, .int 0), (2, .int 1)]) rfl rfl rfl ?_
            refine x_iload (x := 0) rfl rfl ?_
            refine x_iloadn (x := 0) rfl rfl ?_
            refine x_icge (tgt := 323) rfl rfl (br_t (by decide) ?_)
            refine x_vret rfl rfl ?_
            show jX m_X12_partLevy 99 0 0 45 [(5, .int 0), (4, .int 0), (3, .int 0), (2, .int (48300 + (4 * a1))), (0, .ref 125), (1, .int a1)] [] _ 0 0 _
            refine x_lconst (v := 0) rfl kl_0 ?_
            refine x_lstore (ls' := [(6, .long 0), (5, .int 0), (4, .int 0), (3, .int 0), (2, .int (48300 + (4 * a1))), (0, .ref 125), (1, .int a1)]) rfl rfl rfl ?_
            refine x_iconst (v := 0) rfl ki_0 ?_
            refine x_istore (ls' := [(8, .int 0), (6, .long 0), (5, .int 0), (4, .int 0), (3, .int 0), (2, .int (48300 + (4 * a1))), (0, .ref 125), (1, .int a1)]) rfl rfl rfl ?_
            refine x_iload (x := 0) rfl rfl ?_
            refine x_iload (x := 0) rfl rfl ?_
            refine x_icge (tgt := 171) rfl rfl (br_t (by decide) ?_)
            refine x_lload (x := 0) rfl rfl ?_
            refine x_lconst (v := 0) rfl kl_0 ?_
            refine y_lcmp (v := 0) rfl (by decide) ?_
            refine x_ifne (tgt := 182) rfl rfl (bn_f (by decide) ?_)
            refine x_lconst (v := 0) rfl kl_0 ?_
            refine x_goto (tgt := 191) rfl rfl ?_
            refine x_lstore (ls' := [(8, .long 0), (6, .long 0), (5, .int 0), (4, .int 0), (3, .int 0), (2, .int (48300 + (4 * a1))), (0, .ref 125), (1, .int a1)]) rfl rfl rfl ?_
            refine x_iconst (v := 0) rfl ki_0 ?_
            refine x_istore (ls' := [(10, .int 0), (8, .long 0), (6, .long 0), (5, .int 0), (4, .int 0), (3, .int 0), (2, .int (48300 + (4 * a1))), (0, .ref 125), (1, .int a1)]) rfl rfl rfl ?_
            refine x_iload (x := 0) rfl rfl ?_
            refine x_iload (x := 0) rfl rfl ?_
            refine x_icge (tgt := 293) rfl rfl (br_t (by decide) ?_)
            refine x_lload (x := 0) rfl rfl ?_
            refine x_lconst (v := 0) rfl kl_0 ?_
            refine y_lcmp (v := 0) rfl (by decide) ?_
            refine x_ifle (tgt := 393) rfl rfl (br_t (by decide) ?_)
            refine x_iconst (v := 0) rfl ki_0 ?_
            refine x_istore (ls' := [(10, .int 0), (8, .long 0), (6, .long 0), (5, .int 0), (4, .int 0), (3, .int 0), (2, .int (48300 + (4 * a1))), (0, .ref 125), (1, .int a1)]) rfl rfl rfl ?_
            refine x_iload (x := 0) rfl rfl ?_
            refine x_iload (x := 0) rfl rfl ?_
            refine x_icge (tgt := 496) rfl rfl (br_t (by decide) ?_)
            refine x_vret rfl rfl ?_
            show jX m_X12_owe 100 0 0 63 [(0, .ref 125), (1, .int a1), (2, .int a2), (3, .int a3)] [] _ 0 0 _
            refine x_lconst (v := 0) rfl kl_0 ?_
            refine x_lstore (ls' := [(4, .long 0), (0, .ref 125), (1, .int a1), (2, .int a2), (3, .int a3)]) rfl rfl rfl ?_
            refine x_iconst (v := 0) rfl ki_0 ?_
            refine x_istore (ls' := [(6, .int 0), (4, .long 0), (0, .ref 125), (1, .int a1), (2, .int a2), (3, .int a3)]) rfl rfl rfl ?_
            refine x_iload (x := 0) rfl rfl ?_
            refine x_aloadn (x := 125) rfl rfl ?_
            refine x_getR (b := 126) 12 2 rfl f_12_8 rfl (congrArg Prod.fst (F.1 125 (12, 92) rfl rfl)) (F.2.1 16002 126 rfl rfl) ?_
            refine x_bipush (v := 7) rfl kb_7 ?_
            refine y_iald (v := 0) (N := 50660) 7 rfl (F.1 126 (100, 50660) rfl rfl) (jinb_of (by decide)) (by decide) (F.2.2.2.1 126 rfl rfl 7).1 ?_
            refine x_icge (tgt := 114) rfl rfl (br_t (by decide) ?_)
            refine x_lload (x := 0) rfl rfl ?_
            refine y_l2i (v := 0) rfl (by decide) ?_
            refine x_iret rfl rfl ?_
            exact jqe (show sp_owe a1 a2 a3 = 0 by unfold sp_owe; (repeat' split) <;> first | rfl | (exfalso; omega)) (hQ _ (by repeat (first | exact O | refine jOl_si rfl ?_ | refine jOl_sl rfl ?_ | refine jOl_ci rfl ?_ | refine jOl_cl rfl ?_ | refine jOl_sr rfl ?_)))
          ·
            refine x_iconst (v := (-1)) rfl ki_m1 ?_
            refine x_iret rfl rfl ?_
            exact jqe (show sp_owe a1 a2 a3 = (-1) by unfold sp_owe; (repeat' split) <;> first | rfl | (exfalso; omega)) (hQ _ (by repeat (first | exact O | refine jOl_si rfl ?_ | refine jOl_sl rfl ?_ | refine jOl_ci rfl ?_ | refine jOl_cl rfl ?_ | refine jOl_sr rfl ?_)))
def sp_pay (a1 a2 a3 a4 a5 : Int32) : Int32 := if (1 ≤ a3.toInt ∧ a3.toInt ≤ 1000000) ∧ (0 ≤ a4.toInt ∧ a4.toInt ≤ 146399) ∧ (0 ≤ a5.toInt ∧ a5.toInt ≤ 146399) then (-2) else (-1)
set_option maxRecDepth 100000 in
set_option maxHeartbeats 40000000 in
theorem px_pay (a1 a2 a3 a4 a5 : Int32) {xs : Nat → Int32} {h : jH} {Q : Option Value → jH → Prop} (F : jFb 31 h) (O : jOl 7 xs h) (hQ : ∀ h', jFb 125 h' → jOl 7 xs h' → Q (some (.int (sp_pay a1 a2 a3 a4 a5))) h') : jC m_X11_pay 100 0 0 [.ref 31, .int a1, .int a2, .int a3, .int a4, .int a5] h Q := by
  have FM := jFb_up 125 rfl F
  refine jC.of rfl k_X11_pay rfl ?_
  show jX m_X11_pay 100 0 0 0 [(0, .ref 31), (1, .int a1), (2, .int a2), (3, .int a3), (4, .int a4), (5, .int a5)] [] _ 0 0 _
  refine x_iloadn (x := a3) rfl rfl ?_
  refine x_iconst (v := 1) rfl ki_1 ?_
  refine x_ldcw (v := 1000000) rfl z_11_436 ?_
  refine x_inst (N := m_X11_isWithin) (As := [.int a3, .int 1, .int 1000000]) (st := []) (d' := 99) (mc := 0) (ms := 0) (host := "") rfl t_X11_isWithin ⟨Or.inl q_11_202, s_X11_isWithin⟩ rfl (by decide) rfl rfl ⟨by decide, by decide⟩ (c_X11_isWithin rfl (by decide) (by decide) ?_)
  show jX m_X11_pay 100 0 0 8 [(0, .ref 31), (1, .int a1), (2, .int a2), (3, .int a3), (4, .int a4), (5, .int a5)] [.int (jp (1 ≤ a3.toInt ∧ a3.toInt ≤ 1000000))] _ 0 0 _
  refine x_ifeq (tgt := 27) rfl rfl (jpe ⟨fun c1 => ?_, fun c1 => ?_⟩)
  ·
    refine x_aloadn (x := 31) rfl rfl ?_
    refine x_iconst (v := (-1)) rfl ki_m1 ?_
    refine x_inv (N := m_X11_refuse) (As := [.int (-1)]) (b := 31) (st := []) (d' := 99) (mc := 0) (ms := 0) (host := "") 11 rfl t_X11_refuse ⟨Or.inl q_11_206, i_X11_refuse.1, i_X11_refuse.2⟩ ⟨by decide, rfl⟩ (congrArg Prod.fst (F.1 31 (11, 13) rfl rfl)) rfl (by decide) rfl rfl ⟨by decide, by decide⟩ (jC.of rfl k_X11_refuse rfl ?_)
    show jX m_X11_refuse 99 0 0 0 [(0, .ref 31), (1, .int (-1))] [] _ 0 0 _
    refine x_aloadn (x := 31) rfl rfl ?_
    refine x_iloadn (x := (-1)) rfl rfl ?_
    refine x_putI 11 12 rfl f_11_94 rfl (jfin_no TX11 RX11 13 rfl rfl) (congrArg Prod.fst (F.1 31 (11, 13) rfl rfl)) rfl ?_
    refine x_iloadn (x := (-1)) rfl rfl ?_
    refine x_iret rfl rfl ?_
    show jX m_X11_pay 100 0 0 32 [(0, .ref 31), (1, .int a1), (2, .int a2), (3, .int a3), (4, .int a4), (5, .int a5)] [.int (-1)] _ 0 0 _
    refine x_iret rfl rfl ?_
    exact jqe (show sp_pay a1 a2 a3 a4 a5 = (-1) by unfold sp_pay; (repeat' split) <;> first | rfl | (exfalso; omega)) (hQ _ (by repeat (first | exact FM | refine jFb_si rfl ?_ | refine jFb_sl rfl ?_ | refine jFb_ci rfl ?_ | refine jFb_cl rfl ?_ | refine jFb_sr rfl ?_)) (by repeat (first | exact O | refine jOl_si rfl ?_ | refine jOl_sl rfl ?_ | refine jOl_ci rfl ?_ | refine jOl_cl rfl ?_ | refine jOl_sr rfl ?_)))
  ·
    refine x_iload (x := a4) rfl rfl ?_
    refine x_inst (N := m_X11_isDay) (As := [.int a4]) (st := []) (d' := 99) (mc := 0) (ms := 0) (host := "") rfl t_X11_isDay ⟨Or.inl q_11_115, s_X11_isDay⟩ rfl (by decide) rfl rfl ⟨by decide, by decide⟩ (c_X11_isDay (x := a4) ?_)
    show jX m_X11_pay 100 0 0 16 [(0, .ref 31), (1, .int a1), (2, .int a2), (3, .int a3), (4, .int a4), (5, .int a5)] [.int (jp (0 ≤ a4.toInt ∧ a4.toInt ≤ 146399))] _ 0 0 _
    refine x_ifeq (tgt := 27) rfl rfl (jpe ⟨fun c2 => ?_, fun c2 => ?_⟩)
    ·
      refine x_aloadn (x := 31) rfl rfl ?_
      refine x_iconst (v := (-1)) rfl ki_m1 ?_
      refine x_inv (N := m_X11_refuse) (As := [.int (-1)]) (b := 31) (st := []) (d' := 99) (mc := 0) (ms := 0) (host := "") 11 rfl t_X11_refuse ⟨Or.inl q_11_206, i_X11_refuse.1, i_X11_refuse.2⟩ ⟨by decide, rfl⟩ (congrArg Prod.fst (F.1 31 (11, 13) rfl rfl)) rfl (by decide) rfl rfl ⟨by decide, by decide⟩ (jC.of rfl k_X11_refuse rfl ?_)
      show jX m_X11_refuse 99 0 0 0 [(0, .ref 31), (1, .int (-1))] [] _ 0 0 _
      refine x_aloadn (x := 31) rfl rfl ?_
      refine x_iloadn (x := (-1)) rfl rfl ?_
      refine x_putI 11 12 rfl f_11_94 rfl (jfin_no TX11 RX11 13 rfl rfl) (congrArg Prod.fst (F.1 31 (11, 13) rfl rfl)) rfl ?_
      refine x_iloadn (x := (-1)) rfl rfl ?_
      refine x_iret rfl rfl ?_
      show jX m_X11_pay 100 0 0 32 [(0, .ref 31), (1, .int a1), (2, .int a2), (3, .int a3), (4, .int a4), (5, .int a5)] [.int (-1)] _ 0 0 _
      refine x_iret rfl rfl ?_
      exact jqe (show sp_pay a1 a2 a3 a4 a5 = (-1) by unfold sp_pay; (repeat' split) <;> first | rfl | (exfalso; omega)) (hQ _ (by repeat (first | exact FM | refine jFb_si rfl ?_ | refine jFb_sl rfl ?_ | refine jFb_ci rfl ?_ | refine jFb_cl rfl ?_ | refine jFb_sr rfl ?_)) (by repeat (first | exact O | refine jOl_si rfl ?_ | refine jOl_sl rfl ?_ | refine jOl_ci rfl ?_ | refine jOl_cl rfl ?_ | refine jOl_sr rfl ?_)))
    ·
      refine x_iload (x := a5) rfl rfl ?_
      refine x_inst (N := m_X11_isDay) (As := [.int a5]) (st := []) (d' := 99) (mc := 0) (ms := 0) (host := "") rfl t_X11_isDay ⟨Or.inl q_11_115, s_X11_isDay⟩ rfl (by decide) rfl rfl ⟨by decide, by decide⟩ (c_X11_isDay (x := a5) ?_)
      show jX m_X11_pay 100 0 0 24 [(0, .ref 31), (1, .int a1), (2, .int a2), (3, .int a3), (4, .int a4), (5, .int a5)] [.int (jp (0 ≤ a5.toInt ∧ a5.toInt ≤ 146399))] _ 0 0 _
      refine x_ifne (tgt := 33) rfl rfl (jpn ⟨fun c3 => ?_, fun c3 => ?_⟩)
      ·
        refine x_iloadn (x := a1) rfl rfl ?_
        refine x_iflt (tgt := 59) rfl rfl (ti_lt (show (a1 : Int32).toInt = a1.toInt from rfl) (show (0 : Int32).toInt = 0 by decide) ⟨fun c4 => ?_, fun c4 => ?_⟩)
        ·
          refine x_aloadn (x := 31) rfl rfl ?_
          refine x_bipush (v := (-2)) rfl kb_m2 ?_
          refine x_inv (N := m_X11_refuse) (As := [.int (-2)]) (b := 31) (st := []) (d' := 99) (mc := 0) (ms := 0) (host := "") 11 rfl t_X11_refuse ⟨Or.inl q_11_206, i_X11_refuse.1, i_X11_refuse.2⟩ ⟨by decide, rfl⟩ (congrArg Prod.fst (F.1 31 (11, 13) rfl rfl)) rfl (by decide) rfl rfl ⟨by decide, by decide⟩ (jC.of rfl k_X11_refuse rfl ?_)
          show jX m_X11_refuse 99 0 0 0 [(0, .ref 31), (1, .int (-2))] [] _ 0 0 _
          refine x_aloadn (x := 31) rfl rfl ?_
          refine x_iloadn (x := (-2)) rfl rfl ?_
          refine x_putI 11 12 rfl f_11_94 rfl (jfin_no TX11 RX11 13 rfl rfl) (congrArg Prod.fst (F.1 31 (11, 13) rfl rfl)) rfl ?_
          refine x_iloadn (x := (-2)) rfl rfl ?_
          refine x_iret rfl rfl ?_
          show jX m_X11_pay 100 0 0 65 [(0, .ref 31), (1, .int a1), (2, .int a2), (3, .int a3), (4, .int a4), (5, .int a5)] [.int (-2)] _ 0 0 _
          refine x_iret rfl rfl ?_
          exact jqe (show sp_pay a1 a2 a3 a4 a5 = (-2) by unfold sp_pay; (repeat' split) <;> first | rfl | (exfalso; omega)) (hQ _ (by repeat (first | exact FM | refine jFb_si rfl ?_ | refine jFb_sl rfl ?_ | refine jFb_ci rfl ?_ | refine jFb_cl rfl ?_ | refine jFb_sr rfl ?_)) (by repeat (first | exact O | refine jOl_si rfl ?_ | refine jOl_sl rfl ?_ | refine jOl_ci rfl ?_ | refine jOl_cl rfl ?_ | refine jOl_sr rfl ?_)))
        ·
          refine x_iloadn (x := a1) rfl rfl ?_
          refine x_aloadn (x := 31) rfl rfl ?_
          refine x_getR (b := 32) 11 0 rfl f_11_10 rfl (congrArg Prod.fst (F.1 31 (11, 13) rfl rfl)) (F.2.1 3968 32 rfl rfl) ?_
          refine x_getR (b := 53) 1 10 rfl f_11_437 rfl (congrArg Prod.fst (F.1 32 (1, 20) rfl rfl)) (F.2.1 4106 53 rfl rfl) ?_
          refine y_getI (v := 0) 8 3 rfl f_11_142 rfl (congrArg Prod.fst (F.1 53 (8, 4) rfl rfl)) (F.2.2.1 6787 0 rfl rfl) ?_
          refine x_icge (tgt := 59) rfl rfl (ti_ge (show (a1 : Int32).toInt = a1.toInt from rfl) (show (0 : Int32).toInt = 0 by decide) ⟨fun c5 => ?_, fun c5 => ?_⟩)
          ·
            refine x_aloadn (x := 31) rfl rfl ?_
            refine x_bipush (v := (-2)) rfl kb_m2 ?_
            refine x_inv (N := m_X11_refuse) (As := [.int (-2)]) (b := 31) (st := []) (d' := 99) (mc := 0) (ms := 0) (host := "") 11 rfl t_X11_refuse ⟨Or.inl q_11_206, i_X11_refuse.1, i_X11_refuse.2⟩ ⟨by decide, rfl⟩ (congrArg Prod.fst (F.1 31 (11, 13) rfl rfl)) rfl (by decide) rfl rfl ⟨by decide, by decide⟩ (jC.of rfl k_X11_refuse rfl ?_)
            show jX m_X11_refuse 99 0 0 0 [(0, .ref 31), (1, .int (-2))] [] _ 0 0 _
            refine x_aloadn (x := 31) rfl rfl ?_
            refine x_iloadn (x := (-2)) rfl rfl ?_
            refine x_putI 11 12 rfl f_11_94 rfl (jfin_no TX11 RX11 13 rfl rfl) (congrArg Prod.fst (F.1 31 (11, 13) rfl rfl)) rfl ?_
            refine x_iloadn (x := (-2)) rfl rfl ?_
            refine x_iret rfl rfl ?_
            show jX m_X11_pay 100 0 0 65 [(0, .ref 31), (1, .int a1), (2, .int a2), (3, .int a3), (4, .int a4), (5, .int a5)] [.int (-2)] _ 0 0 _
            refine x_iret rfl rfl ?_
            exact jqe (show sp_pay a1 a2 a3 a4 a5 = (-2) by unfold sp_pay; (repeat' split) <;> first | rfl | (exfalso; omega)) (hQ _ (by repeat (first | exact FM | refine jFb_si rfl ?_ | refine jFb_sl rfl ?_ | refine jFb_ci rfl ?_ | refine jFb_cl rfl ?_ | refine jFb_sr rfl ?_)) (by repeat (first | exact O | refine jOl_si rfl ?_ | refine jOl_sl rfl ?_ | refine jOl_ci rfl ?_ | refine jOl_cl rfl ?_ | refine jOl_sr rfl ?_)))
          ·
            refine x_aloadn (x := 31) rfl rfl ?_
            refine x_iloadn (x := a2) rfl rfl ?_
            refine x_inv (N := m_X11_isHolding) (As := [.int a2]) (b := 31) (st := []) (d' := 99) (mc := 0) (ms := 0) (host := "") 11 rfl t_X11_isHolding ⟨Or.inl q_11_415, i_X11_isHolding.1, i_X11_isHolding.2⟩ ⟨by decide, rfl⟩ (congrArg Prod.fst (F.1 31 (11, 13) rfl rfl)) rfl (by decide) rfl rfl ⟨by decide, by decide⟩ (jC.of rfl k_X11_isHolding rfl ?_)
            show jX m_X11_isHolding 99 0 0 0 [(0, .ref 31), (1, .int a2)] [] _ 0 0 _
            refine x_iloadn (x := a2) rfl rfl ?_
            refine x_iflt (tgt := 28) rfl rfl (ti_lt (show (a2 : Int32).toInt = a2.toInt from rfl) (show (0 : Int32).toInt = 0 by decide) ⟨fun c6 => ?_, fun c6 => ?_⟩)
            ·
              refine x_iconst (v := 0) rfl ki_0 ?_
              refine x_zret rfl rfl (by first | decide | exact jp_01 _) ?_
              show jX m_X11_pay 100 0 0 56 [(0, .ref 31), (1, .int a1), (2, .int a2), (3, .int a3), (4, .int a4), (5, .int a5)] [.int 0] _ 0 0 _
              refine x_ifne (tgt := 66) rfl rfl (bn_f (by decide) ?_)
              refine x_aloadn (x := 31) rfl rfl ?_
              refine x_bipush (v := (-2)) rfl kb_m2 ?_
              refine x_inv (N := m_X11_refuse) (As := [.int (-2)]) (b := 31) (st := []) (d' := 99) (mc := 0) (ms := 0) (host := "") 11 rfl t_X11_refuse ⟨Or.inl q_11_206, i_X11_refuse.1, i_X11_refuse.2⟩ ⟨by decide, rfl⟩ (congrArg Prod.fst (F.1 31 (11, 13) rfl rfl)) rfl (by decide) rfl rfl ⟨by decide, by decide⟩ (jC.of rfl k_X11_refuse rfl ?_)
              show jX m_X11_refuse 99 0 0 0 [(0, .ref 31), (1, .int (-2))] [] _ 0 0 _
              refine x_aloadn (x := 31) rfl rfl ?_
              refine x_iloadn (x := (-2)) rfl rfl ?_
              refine x_putI 11 12 rfl f_11_94 rfl (jfin_no TX11 RX11 13 rfl rfl) (congrArg Prod.fst (F.1 31 (11, 13) rfl rfl)) rfl ?_
              refine x_iloadn (x := (-2)) rfl rfl ?_
              refine x_iret rfl rfl ?_
              show jX m_X11_pay 100 0 0 65 [(0, .ref 31), (1, .int a1), (2, .int a2), (3, .int a3), (4, .int a4), (5, .int a5)] [.int (-2)] _ 0 0 _
              refine x_iret rfl rfl ?_
              exact jqe (show sp_pay a1 a2 a3 a4 a5 = (-2) by unfold sp_pay; (repeat' split) <;> first | rfl | (exfalso; omega)) (hQ _ (by repeat (first | exact FM | refine jFb_si rfl ?_ | refine jFb_sl rfl ?_ | refine jFb_ci rfl ?_ | refine jFb_cl rfl ?_ | refine jFb_sr rfl ?_)) (by repeat (first | exact O | refine jOl_si rfl ?_ | refine jOl_sl rfl ?_ | refine jOl_ci rfl ?_ | refine jOl_cl rfl ?_ | refine jOl_sr rfl ?_)))
            ·
              refine x_iloadn (x := a2) rfl rfl ?_
              refine x_aloadn (x := 31) rfl rfl ?_
              refine x_getR (b := 32) 11 0 rfl f_11_10 rfl (congrArg Prod.fst (F.1 31 (11, 13) rfl rfl)) (F.2.1 3968 32 rfl rfl) ?_
              refine x_getR (b := 49) 1 8 rfl f_11_408 rfl (congrArg Prod.fst (F.1 32 (1, 20) rfl rfl)) (F.2.1 4104 49 rfl rfl) ?_
              refine y_getI (v := 0) 8 3 rfl f_11_142 rfl (congrArg Prod.fst (F.1 49 (8, 4) rfl rfl)) (F.2.2.1 6275 0 rfl rfl) ?_
              refine x_icge (tgt := 28) rfl rfl (ti_ge (show (a2 : Int32).toInt = a2.toInt from rfl) (show (0 : Int32).toInt = 0 by decide) ⟨fun c7 => ?_, fun c7 => ?_⟩)
              ·
                refine x_iconst (v := 0) rfl ki_0 ?_
                refine x_zret rfl rfl (by first | decide | exact jp_01 _) ?_
                show jX m_X11_pay 100 0 0 56 [(0, .ref 31), (1, .int a1), (2, .int a2), (3, .int a3), (4, .int a4), (5, .int a5)] [.int 0] _ 0 0 _
                refine x_ifne (tgt := 66) rfl rfl (bn_f (by decide) ?_)
                refine x_aloadn (x := 31) rfl rfl ?_
                refine x_bipush (v := (-2)) rfl kb_m2 ?_
                refine x_inv (N := m_X11_refuse) (As := [.int (-2)]) (b := 31) (st := []) (d' := 99) (mc := 0) (ms := 0) (host := "") 11 rfl t_X11_refuse ⟨Or.inl q_11_206, i_X11_refuse.1, i_X11_refuse.2⟩ ⟨by decide, rfl⟩ (congrArg Prod.fst (F.1 31 (11, 13) rfl rfl)) rfl (by decide) rfl rfl ⟨by decide, by decide⟩ (jC.of rfl k_X11_refuse rfl ?_)
                show jX m_X11_refuse 99 0 0 0 [(0, .ref 31), (1, .int (-2))] [] _ 0 0 _
                refine x_aloadn (x := 31) rfl rfl ?_
                refine x_iloadn (x := (-2)) rfl rfl ?_
                refine x_putI 11 12 rfl f_11_94 rfl (jfin_no TX11 RX11 13 rfl rfl) (congrArg Prod.fst (F.1 31 (11, 13) rfl rfl)) rfl ?_
                refine x_iloadn (x := (-2)) rfl rfl ?_
                refine x_iret rfl rfl ?_
                show jX m_X11_pay 100 0 0 65 [(0, .ref 31), (1, .int a1), (2, .int a2), (3, .int a3), (4, .int a4), (5, .int a5)] [.int (-2)] _ 0 0 _
                refine x_iret rfl rfl ?_
                exact jqe (show sp_pay a1 a2 a3 a4 a5 = (-2) by unfold sp_pay; (repeat' split) <;> first | rfl | (exfalso; omega)) (hQ _ (by repeat (first | exact FM | refine jFb_si rfl ?_ | refine jFb_sl rfl ?_ | refine jFb_ci rfl ?_ | refine jFb_cl rfl ?_ | refine jFb_sr rfl ?_)) (by repeat (first | exact O | refine jOl_si rfl ?_ | refine jOl_sl rfl ?_ | refine jOl_ci rfl ?_ | refine jOl_cl rfl ?_ | refine jOl_sr rfl ?_)))
              ·
                refine x_iloadn (x := a2) rfl rfl ?_
                refine x_bipush (v := 40) rfl kb_40 ?_
                refine x_icge (tgt := 28) rfl rfl (ti_ge (show (a2 : Int32).toInt = a2.toInt from rfl) (show (40 : Int32).toInt = 40 by decide) ⟨fun c8 => ?_, fun c8 => ?_⟩)
                ·
                  refine x_iconst (v := 0) rfl ki_0 ?_
                  refine x_zret rfl rfl (by first | decide | exact jp_01 _) ?_
                  show jX m_X11_pay 100 0 0 56 [(0, .ref 31), (1, .int a1), (2, .int a2), (3, .int a3), (4, .int a4), (5, .int a5)] [.int 0] _ 0 0 _
                  refine x_ifne (tgt := 66) rfl rfl (bn_f (by decide) ?_)
                  refine x_aloadn (x := 31) rfl rfl ?_
                  refine x_bipush (v := (-2)) rfl kb_m2 ?_
                  refine x_inv (N := m_X11_refuse) (As := [.int (-2)]) (b := 31) (st := []) (d' := 99) (mc := 0) (ms := 0) (host := "") 11 rfl t_X11_refuse ⟨Or.inl q_11_206, i_X11_refuse.1, i_X11_refuse.2⟩ ⟨by decide, rfl⟩ (congrArg Prod.fst (F.1 31 (11, 13) rfl rfl)) rfl (by decide) rfl rfl ⟨by decide, by decide⟩ (jC.of rfl k_X11_refuse rfl ?_)
                  show jX m_X11_refuse 99 0 0 0 [(0, .ref 31), (1, .int (-2))] [] _ 0 0 _
                  refine x_aloadn (x := 31) rfl rfl ?_
                  refine x_iloadn (x := (-2)) rfl rfl ?_
                  refine x_putI 11 12 rfl f_11_94 rfl (jfin_no TX11 RX11 13 rfl rfl) (congrArg Prod.fst (F.1 31 (11, 13) rfl rfl)) rfl ?_
                  refine x_iloadn (x := (-2)) rfl rfl ?_
                  refine x_iret rfl rfl ?_
                  show jX m_X11_pay 100 0 0 65 [(0, .ref 31), (1, .int a1), (2, .int a2), (3, .int a3), (4, .int a4), (5, .int a5)] [.int (-2)] _ 0 0 _
                  refine x_iret rfl rfl ?_
                  exact jqe (show sp_pay a1 a2 a3 a4 a5 = (-2) by unfold sp_pay; (repeat' split) <;> first | rfl | (exfalso; omega)) (hQ _ (by repeat (first | exact FM | refine jFb_si rfl ?_ | refine jFb_sl rfl ?_ | refine jFb_ci rfl ?_ | refine jFb_cl rfl ?_ | refine jFb_sr rfl ?_)) (by repeat (first | exact O | refine jOl_si rfl ?_ | refine jOl_sl rfl ?_ | refine jOl_ci rfl ?_ | refine jOl_cl rfl ?_ | refine jOl_sr rfl ?_)))
                ·
                  refine x_iconst (v := 1) rfl ki_1 ?_
                  refine x_goto (tgt := 29) rfl rfl ?_
                  refine x_zret rfl rfl (by first | decide | exact jp_01 _) ?_
                  show jX m_X11_pay 100 0 0 56 [(0, .ref 31), (1, .int a1), (2, .int a2), (3, .int a3), (4, .int a4), (5, .int a5)] [.int 1] _ 0 0 _
                  refine x_ifne (tgt := 66) rfl rfl (bn_t (by decide) ?_)
                  refine x_aloadn (x := 31) rfl rfl ?_
                  refine x_getR (b := 32) 11 0 rfl f_11_10 rfl (congrArg Prod.fst (F.1 31 (11, 13) rfl rfl)) (F.2.1 3968 32 rfl rfl) ?_
                  refine x_getR (b := 55) 1 11 rfl f_11_452 rfl (congrArg Prod.fst (F.1 32 (1, 20) rfl rfl)) (F.2.1 4107 55 rfl rfl) ?_
                  refine x_inv (N := m_X8_isFull) (As := []) (b := 55) (st := []) (d' := 99) (mc := 0) (ms := 0) (host := "") 8 rfl t_X8_isFull ⟨Or.inl q_11_130, i_X8_isFull.1, i_X8_isFull.2⟩ ⟨by decide, rfl⟩ (congrArg Prod.fst (F.1 55 (8, 4) rfl rfl)) rfl (by decide) rfl rfl ⟨by decide, by decide⟩ (jC.of rfl k_X8_isFull rfl ?_)
                  show jX m_X8_isFull 99 0 0 0 [(0, .ref 55)] [] _ 0 0 _
                  refine x_aloadn (x := 55) rfl rfl ?_
                  refine y_getI (v := 0) 8 3 rfl f_8_7 rfl (congrArg Prod.fst (F.1 55 (8, 4) rfl rfl)) (F.2.2.1 7043 0 rfl rfl) ?_
                  refine x_aloadn (x := 55) rfl rfl ?_
                  refine y_getI (v := 100) 8 1 rfl f_8_22 rfl (congrArg Prod.fst (F.1 55 (8, 4) rfl rfl)) (F.2.2.1 7041 100 rfl rfl) ?_
                  refine x_iclt (tgt := 15) rfl rfl (br_t (by decide) ?_)
                  refine x_iconst (v := 0) rfl ki_0 ?_
                  refine x_zret rfl rfl (by first | decide | exact jp_01 _) ?_
                  show jX m_X11_pay 100 0 0 76 [(0, .ref 31), (1, .int a1), (2, .int a2), (3, .int a3), (4, .int a4), (5, .int a5)] [.int 0] _ 0 0 _
                  refine x_ifeq (tgt := 86) rfl rfl (br_t (by decide) ?_)
                  refine x_aloadn (x := 31) rfl rfl ?_
                  refine x_getR (b := 32) 11 0 rfl f_11_10 rfl (congrArg Prod.fst (F.1 31 (11, 13) rfl rfl)) (F.2.1 3968 32 rfl rfl) ?_
                  refine x_getR (b := 55) 1 11 rfl f_11_452 rfl (congrArg Prod.fst (F.1 32 (1, 20) rfl rfl)) (F.2.1 4107 55 rfl rfl) ?_
                  refine x_iload (x := a5) rfl rfl ?_
                  refine x_iload (x := a4) rfl rfl ?_
                  refine x_iloadn (x := a2) rfl rfl ?_
                  refine x_iloadn (x := a1) rfl rfl ?_
                  refine x_iloadn (x := a3) rfl rfl ?_
                  refine x_iconst (v := 0) rfl ki_0 ?_
                  refine x_inv (N := m_X8_add) (As := [.int a5, .int a4, .int a2, .int a1, .int a3, .int 0]) (b := 55) (st := []) (d' := 99) (mc := 0) (ms := 0) (host := "") 8 rfl t_X8_add ⟨Or.inl q_11_145, i_X8_add.1, i_X8_add.2⟩ ⟨by decide, rfl⟩ (congrArg Prod.fst (F.1 55 (8, 4) rfl rfl)) rfl (by decide) rfl rfl ⟨by decide, by decide⟩ (jC.of rfl k_X8_add rfl ?_)
                  show jX m_X8_add 99 0 0 0 [(0, .ref 55), (1, .int a5), (2, .int a4), (3, .int a2), (4, .int a1), (5, .int a3), (6, .int 0)] [] _ 0 0 _
                  refine x_aloadn (x := 55) rfl rfl ?_
                  refine y_getI (v := 0) 8 3 rfl f_8_7 rfl (congrArg Prod.fst (F.1 55 (8, 4) rfl rfl)) (F.2.2.1 7043 0 rfl rfl) ?_
                  refine x_aloadn (x := 55) rfl rfl ?_
                  refine y_getI (v := 100) 8 1 rfl f_8_22 rfl (congrArg Prod.fst (F.1 55 (8, 4) rfl rfl)) (F.2.2.1 7041 100 rfl rfl) ?_
                  refine x_iclt (tgt := 12) rfl rfl (br_t (by decide) ?_)
                  refine x_aloadn (x := 55) rfl rfl ?_
                  refine y_getI (v := 0) 8 3 rfl f_8_7 rfl (congrArg Prod.fst (F.1 55 (8, 4) rfl rfl)) (F.2.2.1 7043 0 rfl rfl) ?_
                  refine x_istore (ls' := [(7, .int 0), (0, .ref 55), (1, .int a5), (2, .int a4), (3, .int a2), (4, .int a1), (5, .int a3), (6, .int 0)]) rfl rfl rfl ?_
                  refine x_aloadn (x := 55) rfl rfl ?_
                  refine x_iload (x := 0) rfl rfl ?_
                  refine x_iconst (v := 1) rfl ki_1 ?_
                  refine y_iadd (v := 1) rfl (by decide) ?_
                  refine x_putI 8 3 rfl f_8_7 rfl (jfin_no TX8 RX8 4 rfl rfl) (congrArg Prod.fst (F.1 55 (8, 4) rfl rfl)) rfl ?_
                  refine x_aloadn (x := 55) rfl rfl ?_
                  refine x_iload (x := 0) rfl rfl ?_
                  refine x_iconst (v := 0) rfl ki_0 ?_
                  refine x_iloadn (x := a5) rfl rfl ?_
                  refine x_inv (N := m_X8_put) (As := [.int 0, .int 0, .int a5]) (b := 55) (st := []) (d' := 98) (mc := 0) (ms := 0) (host := "") 8 rfl t_X8_put ⟨Or.inl q_8_29, i_X8_put.1, i_X8_put.2⟩ ⟨by decide, rfl⟩ (congrArg Prod.fst (F.1 55 (8, 4) rfl rfl)) rfl (by decide) rfl rfl ⟨by decide, by decide⟩ (jC.of rfl k_X8_put rfl ?_)
                  show jX m_X8_put 98 0 0 0 [(0, .ref 55), (1, .int 0), (2, .int 0), (3, .int a5)] [] _ 0 0 _
                  refine x_iloadn (x := 0) rfl rfl ?_
                  refine x_iflt (tgt := 38) rfl rfl (br_f (by decide) ?_)
                  refine x_iloadn (x := 0) rfl rfl ?_
                  refine x_aloadn (x := 55) rfl rfl ?_
                  refine y_getI (v := 1) 8 3 rfl f_8_7 rfl (congrArg Prod.fst (F.1 55 (8, 4) rfl rfl)) rfl ?_
                  refine x_icge (tgt := 38) rfl rfl (br_f (by decide) ?_)
                  refine x_iloadn (x := 0) rfl rfl ?_
                  refine x_iflt (tgt := 38) rfl rfl (br_f (by decide) ?_)
                  refine x_iloadn (x := 0) rfl rfl ?_
                  refine x_aloadn (x := 55) rfl rfl ?_
                  refine y_getI (v := 5) 8 0 rfl f_8_19 rfl (congrArg Prod.fst (F.1 55 (8, 4) rfl rfl)) (F.2.2.1 7040 5 rfl rfl) ?_
                  refine x_icge (tgt := 38) rfl rfl (br_f (by decide) ?_)
                  refine x_aloadn (x := 55) rfl rfl ?_
                  refine x_getR (b := 56) 8 2 rfl f_8_25 rfl (congrArg Prod.fst (F.1 55 (8, 4) rfl rfl)) (F.2.1 7042 56 rfl rfl) ?_
                  refine x_iloadn (x := 0) rfl rfl ?_
                  refine x_aloadn (x := 55) rfl rfl ?_
                  refine y_getI (v := 5) 8 0 rfl f_8_19 rfl (congrArg Prod.fst (F.1 55 (8, 4) rfl rfl)) (F.2.2.1 7040 5 rfl rfl) ?_
                  refine y_imul (v := 0) rfl (by decide) ?_
                  refine x_iloadn (x := 0) rfl rfl ?_
                  refine y_iadd (v := 0) rfl (by decide) ?_
                  refine x_iloadn (x := a5) rfl rfl ?_
                  refine y_iast (N := 500) 0 rfl (F.1 56 (100, 500) rfl rfl) rfl (jinb_of (by decide)) (by decide) ?_
                  refine x_vret rfl rfl ?_
                  show jX m_X8_add 99 0 0 34 [(7, .int 0), (0, .ref 55), (1, .int a5), (2, .int a4), (3, .int a2), (4, .int a1), (5, .int a3), (6, .int 0)] [] _ 0 0 _
                  refine x_aloadn (x := 55) rfl rfl ?_
                  refine x_iload (x := 0) rfl rfl ?_
                  refine x_iconst (v := 1) rfl ki_1 ?_
                  refine x_iloadn (x := a4) rfl rfl ?_
                  refine x_inv (N := m_X8_put) (As := [.int 0, .int 1, .int a4]) (b := 55) (st := []) (d' := 98) (mc := 0) (ms := 0) (host := "") 8 rfl t_X8_put ⟨Or.inl q_8_29, i_X8_put.1, i_X8_put.2⟩ ⟨by decide, rfl⟩ (congrArg Prod.fst (F.1 55 (8, 4) rfl rfl)) rfl (by decide) rfl rfl ⟨by decide, by decide⟩ (jC.of rfl k_X8_put rfl ?_)
                  show jX m_X8_put 98 0 0 0 [(0, .ref 55), (1, .int 0), (2, .int 1), (3, .int a4)] [] _ 0 0 _
                  refine x_iloadn (x := 0) rfl rfl ?_
                  refine x_iflt (tgt := 38) rfl rfl (br_f (by decide) ?_)
                  refine x_iloadn (x := 0) rfl rfl ?_
                  refine x_aloadn (x := 55) rfl rfl ?_
                  refine y_getI (v := 1) 8 3 rfl f_8_7 rfl (congrArg Prod.fst (F.1 55 (8, 4) rfl rfl)) rfl ?_
                  refine x_icge (tgt := 38) rfl rfl (br_f (by decide) ?_)
                  refine x_iloadn (x := 1) rfl rfl ?_
                  refine x_iflt (tgt := 38) rfl rfl (br_f (by decide) ?_)
                  refine x_iloadn (x := 1) rfl rfl ?_
                  refine x_aloadn (x := 55) rfl rfl ?_
                  refine y_getI (v := 5) 8 0 rfl f_8_19 rfl (congrArg Prod.fst (F.1 55 (8, 4) rfl rfl)) (F.2.2.1 7040 5 rfl rfl) ?_
                  refine x_icge (tgt := 38) rfl rfl (br_f (by decide) ?_)
                  refine x_aloadn (x := 55) rfl rfl ?_
                  refine x_getR (b := 56) 8 2 rfl f_8_25 rfl (congrArg Prod.fst (F.1 55 (8, 4) rfl rfl)) (F.2.1 7042 56 rfl rfl) ?_
                  refine x_iloadn (x := 0) rfl rfl ?_
                  refine x_aloadn (x := 55) rfl rfl ?_
                  refine y_getI (v := 5) 8 0 rfl f_8_19 rfl (congrArg Prod.fst (F.1 55 (8, 4) rfl rfl)) (F.2.2.1 7040 5 rfl rfl) ?_
                  refine y_imul (v := 0) rfl (by decide) ?_
                  refine x_iloadn (x := 1) rfl rfl ?_
                  refine y_iadd (v := 1) rfl (by decide) ?_
                  refine x_iloadn (x := a4) rfl rfl ?_
                  refine y_iast (N := 500) 1 rfl (F.1 56 (100, 500) rfl rfl) rfl (jinb_of (by decide)) (by decide) ?_
                  refine x_vret rfl rfl ?_
                  show jX m_X8_add 99 0 0 42 [(7, .int 0), (0, .ref 55), (1, .int a5), (2, .int a4), (3, .int a2), (4, .int a1), (5, .int a3), (6, .int 0)] [] _ 0 0 _
                  refine x_aloadn (x := 55) rfl rfl ?_
                  refine x_iload (x := 0) rfl rfl ?_
                  refine x_iconst (v := 2) rfl ki_2 ?_
                  refine x_iloadn (x := a2) rfl rfl ?_
                  refine x_inv (N := m_X8_put) (As := [.int 0, .int 2, .int a2]) (b := 55) (st := []) (d' := 98) (mc := 0) (ms := 0) (host := "") 8 rfl t_X8_put ⟨Or.inl q_8_29, i_X8_put.1, i_X8_put.2⟩ ⟨by decide, rfl⟩ (congrArg Prod.fst (F.1 55 (8, 4) rfl rfl)) rfl (by decide) rfl rfl ⟨by decide, by decide⟩ (jC.of rfl k_X8_put rfl ?_)
                  show jX m_X8_put 98 0 0 0 [(0, .ref 55), (1, .int 0), (2, .int 2), (3, .int a2)] [] _ 0 0 _
                  refine x_iloadn (x := 0) rfl rfl ?_
                  refine x_iflt (tgt := 38) rfl rfl (br_f (by decide) ?_)
                  refine x_iloadn (x := 0) rfl rfl ?_
                  refine x_aloadn (x := 55) rfl rfl ?_
                  refine y_getI (v := 1) 8 3 rfl f_8_7 rfl (congrArg Prod.fst (F.1 55 (8, 4) rfl rfl)) rfl ?_
                  refine x_icge (tgt := 38) rfl rfl (br_f (by decide) ?_)
                  refine x_iloadn (x := 2) rfl rfl ?_
                  refine x_iflt (tgt := 38) rfl rfl (br_f (by decide) ?_)
                  refine x_iloadn (x := 2) rfl rfl ?_
                  refine x_aloadn (x := 55) rfl rfl ?_
                  refine y_getI (v := 5) 8 0 rfl f_8_19 rfl (congrArg Prod.fst (F.1 55 (8, 4) rfl rfl)) (F.2.2.1 7040 5 rfl rfl) ?_
                  refine x_icge (tgt := 38) rfl rfl (br_f (by decide) ?_)
                  refine x_aloadn (x := 55) rfl rfl ?_
                  refine x_getR (b := 56) 8 2 rfl f_8_25 rfl (congrArg Prod.fst (F.1 55 (8, 4) rfl rfl)) (F.2.1 7042 56 rfl rfl) ?_
                  refine x_iloadn (x := 0) rfl rfl ?_
                  refine x_aloadn (x := 55) rfl rfl ?_
                  refine y_getI (v := 5) 8 0 rfl f_8_19 rfl (congrArg Prod.fst (F.1 55 (8, 4) rfl rfl)) (F.2.2.1 7040 5 rfl rfl) ?_
                  refine y_imul (v := 0) rfl (by decide) ?_
                  refine x_iloadn (x := 2) rfl rfl ?_
                  refine y_iadd (v := 2) rfl (by decide) ?_
                  refine x_iloadn (x := a2) rfl rfl ?_
                  refine y_iast (N := 500) 2 rfl (F.1 56 (100, 500) rfl rfl) rfl (jinb_of (by decide)) (by decide) ?_
                  refine x_vret rfl rfl ?_
                  show jX m_X8_add 99 0 0 50 [(7, .int 0), (0, .ref 55), (1, .int a5), (2, .int a4), (3, .int a2), (4, .int a1), (5, .int a3), (6, .int 0)] [] _ 0 0 _
                  refine x_aloadn (x := 55) rfl rfl ?_
                  refine x_iload (x := 0) rfl rfl ?_
                  refine x_iconst (v := 3) rfl ki_3 ?_
                  refine x_iload (x := a1) rfl rfl ?_
                  refine x_inv (N := m_X8_put) (As := [.int 0, .int 3, .int a1]) (b := 55) (st := []) (d' := 98) (mc := 0) (ms := 0) (host := "") 8 rfl t_X8_put ⟨Or.inl q_8_29, i_X8_put.1, i_X8_put.2⟩ ⟨by decide, rfl⟩ (congrArg Prod.fst (F.1 55 (8, 4) rfl rfl)) rfl (by decide) rfl rfl ⟨by decide, by decide⟩ (jC.of rfl k_X8_put rfl ?_)
                  show jX m_X8_put 98 0 0 0 [(0, .ref 55), (1, .int 0), (2, .int 3), (3, .int a1)] [] _ 0 0 _
                  refine x_iloadn (x := 0) rfl rfl ?_
                  refine x_iflt (tgt := 38) rfl rfl (br_f (by decide) ?_)
                  refine x_iloadn (x := 0) rfl rfl ?_
                  refine x_aloadn (x := 55) rfl rfl ?_
                  refine y_getI (v := 1) 8 3 rfl f_8_7 rfl (congrArg Prod.fst (F.1 55 (8, 4) rfl rfl)) rfl ?_
                  refine x_icge (tgt := 38) rfl rfl (br_f (by decide) ?_)
                  refine x_iloadn (x := 3) rfl rfl ?_
                  refine x_iflt (tgt := 38) rfl rfl (br_f (by decide) ?_)
                  refine x_iloadn (x := 3) rfl rfl ?_
                  refine x_aloadn (x := 55) rfl rfl ?_
                  refine y_getI (v := 5) 8 0 rfl f_8_19 rfl (congrArg Prod.fst (F.1 55 (8, 4) rfl rfl)) (F.2.2.1 7040 5 rfl rfl) ?_
                  refine x_icge (tgt := 38) rfl rfl (br_f (by decide) ?_)
                  refine x_aloadn (x := 55) rfl rfl ?_
                  refine x_getR (b := 56) 8 2 rfl f_8_25 rfl (congrArg Prod.fst (F.1 55 (8, 4) rfl rfl)) (F.2.1 7042 56 rfl rfl) ?_
                  refine x_iloadn (x := 0) rfl rfl ?_
                  refine x_aloadn (x := 55) rfl rfl ?_
                  refine y_getI (v := 5) 8 0 rfl f_8_19 rfl (congrArg Prod.fst (F.1 55 (8, 4) rfl rfl)) (F.2.2.1 7040 5 rfl rfl) ?_
                  refine y_imul (v := 0) rfl (by decide) ?_
                  refine x_iloadn (x := 3) rfl rfl ?_
                  refine y_iadd (v := 3) rfl (by decide) ?_
                  refine x_iloadn (x := a1) rfl rfl ?_
                  refine y_iast (N := 500) 3 rfl (F.1 56 (100, 500) rfl rfl) rfl (jinb_of (by decide)) (by decide) ?_
                  refine x_vret rfl rfl ?_
                  show jX m_X8_add 99 0 0 59 [(7, .int 0), (0, .ref 55), (1, .int a5), (2, .int a4), (3, .int a2), (4, .int a1), (5, .int a3), (6, .int 0)] [] _ 0 0 _
                  refine x_aloadn (x := 55) rfl rfl ?_
                  refine x_iload (x := 0) rfl rfl ?_
                  refine x_iconst (v := 4) rfl ki_4 ?_
                  refine x_iload (x := a3) rfl rfl ?_
                  refine x_inv (N := m_X8_put) (As := [.int 0, .int 4, .int a3]) (b := 55) (st := []) (d' := 98) (mc := 0) (ms := 0) (host := "") 8 rfl t_X8_put ⟨Or.inl q_8_29, i_X8_put.1, i_X8_put.2⟩ ⟨by decide, rfl⟩ (congrArg Prod.fst (F.1 55 (8, 4) rfl rfl)) rfl (by decide) rfl rfl ⟨by decide, by decide⟩ (jC.of rfl k_X8_put rfl ?_)
                  show jX m_X8_put 98 0 0 0 [(0, .ref 55), (1, .int 0), (2, .int 4), (3, .int a3)] [] _ 0 0 _
                  refine x_iloadn (x := 0) rfl rfl ?_
                  refine x_iflt (tgt := 38) rfl rfl (br_f (by decide) ?_)
                  refine x_iloadn (x := 0) rfl rfl ?_
                  refine x_aloadn (x := 55) rfl rfl ?_
                  refine y_getI (v := 1) 8 3 rfl f_8_7 rfl (congrArg Prod.fst (F.1 55 (8, 4) rfl rfl)) rfl ?_
                  refine x_icge (tgt := 38) rfl rfl (br_f (by decide) ?_)
                  refine x_iloadn (x := 4) rfl rfl ?_
                  refine x_iflt (tgt := 38) rfl rfl (br_f (by decide) ?_)
                  refine x_iloadn (x := 4) rfl rfl ?_
                  refine x_aloadn (x := 55) rfl rfl ?_
                  refine y_getI (v := 5) 8 0 rfl f_8_19 rfl (congrArg Prod.fst (F.1 55 (8, 4) rfl rfl)) (F.2.2.1 7040 5 rfl rfl) ?_
                  refine x_icge (tgt := 38) rfl rfl (br_f (by decide) ?_)
                  refine x_aloadn (x := 55) rfl rfl ?_
                  refine x_getR (b := 56) 8 2 rfl f_8_25 rfl (congrArg Prod.fst (F.1 55 (8, 4) rfl rfl)) (F.2.1 7042 56 rfl rfl) ?_
                  refine x_iloadn (x := 0) rfl rfl ?_
                  refine x_aloadn (x := 55) rfl rfl ?_
                  refine y_getI (v := 5) 8 0 rfl f_8_19 rfl (congrArg Prod.fst (F.1 55 (8, 4) rfl rfl)) (F.2.2.1 7040 5 rfl rfl) ?_
                  refine y_imul (v := 0) rfl (by decide) ?_
                  refine x_iloadn (x := 4) rfl rfl ?_
                  refine y_iadd (v := 4) rfl (by decide) ?_
                  refine x_iloadn (x := a3) rfl rfl ?_
                  refine y_iast (N := 500) 4 rfl (F.1 56 (100, 500) rfl rfl) rfl (jinb_of (by decide)) (by decide) ?_
                  refine x_vret rfl rfl ?_
                  show jX m_X8_add 99 0 0 68 [(7, .int 0), (0, .ref 55), (1, .int a5), (2, .int a4), (3, .int a2), (4, .int a1), (5, .int a3), (6, .int 0)] [] _ 0 0 _
                  refine x_aloadn (x := 55) rfl rfl ?_
                  refine x_iload (x := 0) rfl rfl ?_
                  refine x_iconst (v := 5) rfl ki_5 ?_
                  refine x_iload (x := 0) rfl rfl ?_
                  refine x_inv (N := m_X8_put) (As := [.int 0, .int 5, .int 0]) (b := 55) (st := []) (d' := 98) (mc := 0) (ms := 0) (host := "") 8 rfl t_X8_put ⟨Or.inl q_8_29, i_X8_put.1, i_X8_put.2⟩ ⟨by decide, rfl⟩ (congrArg Prod.fst (F.1 55 (8, 4) rfl rfl)) rfl (by decide) rfl rfl ⟨by decide, by decide⟩ (jC.of rfl k_X8_put rfl ?_)
                  show jX m_X8_put 98 0 0 0 [(0, .ref 55), (1, .int 0), (2, .int 5), (3, .int 0)] [] _ 0 0 _
                  refine x_iloadn (x := 0) rfl rfl ?_
                  refine x_iflt (tgt := 38) rfl rfl (br_f (by decide) ?_)
                  refine x_iloadn (x := 0) rfl rfl ?_
                  refine x_aloadn (x := 55) rfl rfl ?_
                  refine y_getI (v := 1) 8 3 rfl f_8_7 rfl (congrArg Prod.fst (F.1 55 (8, 4) rfl rfl)) rfl ?_
                  refine x_icge (tgt := 38) rfl rfl (br_f (by decide) ?_)
                  refine x_iloadn (x := 5) rfl rfl ?_
                  refine x_iflt (tgt := 38) rfl rfl (br_f (by decide) ?_)
                  refine x_iloadn (x := 5) rfl rfl ?_
                  refine x_aloadn (x := 55) rfl rfl ?_
                  refine y_getI (v := 5) 8 0 rfl f_8_19 rfl (congrArg Prod.fst (F.1 55 (8, 4) rfl rfl)) (F.2.2.1 7040 5 rfl rfl) ?_
                  refine x_icge (tgt := 38) rfl rfl (br_t (by decide) ?_)
                  refine x_vret rfl rfl ?_
                  show jX m_X8_add 99 0 0 77 [(7, .int 0), (0, .ref 55), (1, .int a5), (2, .int a4), (3, .int a2), (4, .int a1), (5, .int a3), (6, .int 0)] [] _ 0 0 _
                  refine x_vret rfl rfl ?_
                  show jX m_X11_pay 100 0 0 104 [(0, .ref 31), (1, .int a1), (2, .int a2), (3, .int a3), (4, .int a4), (5, .int a5)] [] _ 0 0 _
                  refine x_aloadn (x := 31) rfl rfl ?_
                  refine x_aloadn (x := 31) rfl rfl ?_
                  refine x_getR (b := 32) 11 0 rfl f_11_10 rfl (congrArg Prod.fst (F.1 31 (11, 13) rfl rfl)) (F.2.1 3968 32 rfl rfl) ?_
                  refine x_getR (b := 55) 1 11 rfl f_11_452 rfl (congrArg Prod.fst (F.1 32 (1, 20) rfl rfl)) (F.2.1 4107 55 rfl rfl) ?_
                  refine y_getI (v := 1) 8 3 rfl f_11_142 rfl (congrArg Prod.fst (F.1 55 (8, 4) rfl rfl)) rfl ?_
                  refine x_inv (N := m_X11_accept) (As := [.int 1]) (b := 31) (st := []) (d' := 99) (mc := 0) (ms := 0) (host := "") 11 rfl t_X11_accept ⟨Or.inl q_11_165, i_X11_accept.1, i_X11_accept.2⟩ ⟨by decide, rfl⟩ (congrArg Prod.fst (F.1 31 (11, 13) rfl rfl)) rfl (by decide) rfl rfl ⟨by decide, by decide⟩ (jC.of rfl k_X11_accept rfl ?_)
                  show jX m_X11_accept 99 0 0 0 [(0, .ref 31), (1, .int 1)] [] _ 0 0 _
                  refine x_aloadn (x := 31) rfl rfl ?_
                  refine x_iconst (v := 0) rfl ki_0 ?_
                  refine x_putI 11 12 rfl f_11_94 rfl (jfin_no TX11 RX11 13 rfl rfl) (congrArg Prod.fst (F.1 31 (11, 13) rfl rfl)) rfl ?_
                  refine x_aloadn (x := 31) rfl rfl ?_
                  refine x_getR (b := 32) 11 0 rfl f_11_10 rfl (congrArg Prod.fst (F.1 31 (11, 13) rfl rfl)) (F.2.1 3968 32 rfl rfl) ?_
                  refine x_dup rfl rfl ?_
                  refine y_getI (v := 1) 1 19 rfl f_11_528 rfl (congrArg Prod.fst (F.1 32 (1, 20) rfl rfl)) (F.2.2.1 4115 1 rfl rfl) ?_
                  refine x_iconst (v := 1) rfl ki_1 ?_
                  refine y_iadd (v := 2) rfl (by decide) ?_
                  refine x_putI 1 19 rfl f_11_528 rfl (jfin_no TX1 RX1 20 rfl rfl) (congrArg Prod.fst (F.1 32 (1, 20) rfl rfl)) rfl ?_
                  refine x_iloadn (x := 1) rfl rfl ?_
                  refine x_iret rfl rfl ?_
                  show jX m_X11_pay 100 0 0 118 [(0, .ref 31), (1, .int a1), (2, .int a2), (3, .int a3), (4, .int a4), (5, .int a5)] [.int 1] _ 0 0 _
                  refine x_iret rfl rfl ?_
                  exact jqe (show sp_pay a1 a2 a3 a4 a5 = 1 by unfold sp_pay; (repeat' split) <;> first | rfl | (exfalso; omega)) (hQ _ (by repeat (first | exact FM | refine jFb_si rfl ?_ | refine jFb_sl rfl ?_ | refine jFb_ci rfl ?_ | refine jFb_cl rfl ?_ | refine jFb_sr rfl ?_)) (by repeat (first | exact O | refine jOl_si rfl ?_ | refine jOl_sl rfl ?_ | refine jOl_ci rfl ?_ | refine jOl_cl rfl ?_ | refine jOl_sr rfl ?_)))
      ·
        refine x_aloadn (x := 31) rfl rfl ?_
        refine x_iconst (v := (-1)) rfl ki_m1 ?_
        refine x_inv (N := m_X11_refuse) (As := [.int (-1)]) (b := 31) (st := []) (d' := 99) (mc := 0) (ms := 0) (host := "") 11 rfl t_X11_refuse ⟨Or.inl q_11_206, i_X11_refuse.1, i_X11_refuse.2⟩ ⟨by decide, rfl⟩ (congrArg Prod.fst (F.1 31 (11, 13) rfl rfl)) rfl (by decide) rfl rfl ⟨by decide, by decide⟩ (jC.of rfl k_X11_refuse rfl ?_)
        show jX m_X11_refuse 99 0 0 0 [(0, .ref 31), (1, .int (-1))] [] _ 0 0 _
        refine x_aloadn (x := 31) rfl rfl ?_
        refine x_iloadn (x := (-1)) rfl rfl ?_
        refine x_putI 11 12 rfl f_11_94 rfl (jfin_no TX11 RX11 13 rfl rfl) (congrArg Prod.fst (F.1 31 (11, 13) rfl rfl)) rfl ?_
        refine x_iloadn (x := (-1)) rfl rfl ?_
        refine x_iret rfl rfl ?_
        show jX m_X11_pay 100 0 0 32 [(0, .ref 31), (1, .int a1), (2, .int a2), (3, .int a3), (4, .int a4), (5, .int a5)] [.int (-1)] _ 0 0 _
        refine x_iret rfl rfl ?_
        exact jqe (show sp_pay a1 a2 a3 a4 a5 = (-1) by unfold sp_pay; (repeat' split) <;> first | rfl | (exfalso; omega)) (hQ _ (by repeat (first | exact FM | refine jFb_si rfl ?_ | refine jFb_sl rfl ?_ | refine jFb_ci rfl ?_ | refine jFb_cl rfl ?_ | refine jFb_sr rfl ?_)) (by repeat (first | exact O | refine jOl_si rfl ?_ | refine jOl_sl rfl ?_ | refine jOl_ci rfl ?_ | refine jOl_cl rfl ?_ | refine jOl_sr rfl ?_)))
set_option maxRecDepth 100000 in
set_option maxHeartbeats 40000000 in
theorem pm_pay (a1 a2 a3 a4 a5 : Int32) {xs : Nat → Int32} {h : jH} {Q : Option Value → jH → Prop} (F : jFb 125 h) (O : jOl 7 xs h) (hQ : ∀ h', jOl 7 xs h' → Q (some (.int (sp_pay a1 a2 a3 a4 a5))) h') : jC m_X12_pay 100 0 0 [.ref 125, .int a1, .int a2, .int a3, .int a4, .int a5] h Q := by
  refine jC.of rfl k_X12_pay rfl ?_
  show jX m_X12_pay 100 0 0 0 [(0, .ref 125), (1, .int a1), (2, .int a2), (3, .int a3), (4, .int a4), (5, .int a5)] [] _ 0 0 _
  refine x_aloadn (x := 125) rfl rfl ?_
  refine x_iconst (v := 0) rfl ki_0 ?_
  refine x_putI 12 0 rfl f_12_180 rfl (jfin_no TX12 RX12 92 rfl rfl) (congrArg Prod.fst (F.1 125 (12, 92) rfl rfl)) rfl ?_
  refine x_iloadn (x := a3) rfl rfl ?_
  refine x_i2l rfl ?_
  refine x_lconst (v := 1) rfl kl_1 ?_
  refine x_ldc2 (v := 1000000) rfl z_12_244 ?_
  refine x_inst (N := m_X12_in) (As := [.long (a3.toInt64), .long 1, .long 1000000]) (st := []) (d' := 99) (mc := 0) (ms := 0) (host := "") rfl t_X12_in ⟨Or.inl q_12_188, s_X12_in⟩ rfl (by decide) rfl rfl ⟨by decide, by decide⟩ (c_X12_in (jt_l _) (by decide) (by decide) ?_)
  show jX m_X12_pay 100 0 0 14 [(0, .ref 125), (1, .int a1), (2, .int a2), (3, .int a3), (4, .int a4), (5, .int a5)] [.int (jp (1 ≤ a3.toInt ∧ a3.toInt ≤ 1000000))] _ 0 0 _
  refine x_ifeq (tgt := 33) rfl rfl (jpe ⟨fun c1 => ?_, fun c1 => ?_⟩)
  ·
    refine x_aloadn (x := 125) rfl rfl ?_
    refine x_iconst (v := (-1)) rfl ki_m1 ?_
    refine x_inv (N := m_X12_told) (As := [.int (-1)]) (b := 125) (st := []) (d' := 99) (mc := 0) (ms := 0) (host := "") 12 rfl t_X12_told ⟨Or.inl q_12_197, i_X12_told.1, i_X12_told.2⟩ ⟨by decide, rfl⟩ (congrArg Prod.fst (F.1 125 (12, 92) rfl rfl)) rfl (by decide) rfl rfl ⟨by decide, by decide⟩ (jC.of rfl k_X12_told rfl ?_)
    show jX m_X12_told 99 0 0 0 [(0, .ref 125), (1, .int (-1))] [] _ 0 0 _
    refine x_aloadn (x := 125) rfl rfl ?_
    refine x_iloadn (x := (-1)) rfl rfl ?_
    refine x_ifge (tgt := 9) rfl rfl (br_f (by decide) ?_)
    refine x_iloadn (x := (-1)) rfl rfl ?_
    refine x_goto (tgt := 10) rfl rfl ?_
    refine x_putI 12 1 rfl f_12_183 rfl (jfin_no TX12 RX12 92 rfl rfl) (congrArg Prod.fst (F.1 125 (12, 92) rfl rfl)) rfl ?_
    refine x_iloadn (x := (-1)) rfl rfl ?_
    refine x_iret rfl rfl ?_
    show jX m_X12_pay 100 0 0 38 [(0, .ref 125), (1, .int a1), (2, .int a2), (3, .int a3), (4, .int a4), (5, .int a5)] [.int (-1)] _ 0 0 _
    refine x_iret rfl rfl ?_
    exact jqe (show sp_pay a1 a2 a3 a4 a5 = (-1) by unfold sp_pay; (repeat' split) <;> first | rfl | (exfalso; omega)) (hQ _ (by repeat (first | exact O | refine jOl_si rfl ?_ | refine jOl_sl rfl ?_ | refine jOl_ci rfl ?_ | refine jOl_cl rfl ?_ | refine jOl_sr rfl ?_)))
  ·
    refine x_iload (x := a4) rfl rfl ?_
    refine x_inst (N := m_X12_isDay) (As := [.int a4]) (st := []) (d' := 99) (mc := 0) (ms := 0) (host := "") rfl t_X12_isDay ⟨Or.inl q_12_273, s_X12_isDay⟩ rfl (by decide) rfl rfl ⟨by decide, by decide⟩ (c_X12_isDay (x := a4) ?_)
    show jX m_X12_pay 100 0 0 22 [(0, .ref 125), (1, .int a1), (2, .int a2), (3, .int a3), (4, .int a4), (5, .int a5)] [.int (jp (0 ≤ a4.toInt ∧ a4.toInt ≤ 146399))] _ 0 0 _
    refine x_ifeq (tgt := 33) rfl rfl (jpe ⟨fun c2 => ?_, fun c2 => ?_⟩)
    ·
      refine x_aloadn (x := 125) rfl rfl ?_
      refine x_iconst (v := (-1)) rfl ki_m1 ?_
      refine x_inv (N := m_X12_told) (As := [.int (-1)]) (b := 125) (st := []) (d' := 99) (mc := 0) (ms := 0) (host := "") 12 rfl t_X12_told ⟨Or.inl q_12_197, i_X12_told.1, i_X12_told.2⟩ ⟨by decide, rfl⟩ (congrArg Prod.fst (F.1 125 (12, 92) rfl rfl)) rfl (by decide) rfl rfl ⟨by decide, by decide⟩ (jC.of rfl k_X12_told rfl ?_)
      show jX m_X12_told 99 0 0 0 [(0, .ref 125), (1, .int (-1))] [] _ 0 0 _
      refine x_aloadn (x := 125) rfl rfl ?_
      refine x_iloadn (x := (-1)) rfl rfl ?_
      refine x_ifge (tgt := 9) rfl rfl (br_f (by decide) ?_)
      refine x_iloadn (x := (-1)) rfl rfl ?_
      refine x_goto (tgt := 10) rfl rfl ?_
      refine x_putI 12 1 rfl f_12_183 rfl (jfin_no TX12 RX12 92 rfl rfl) (congrArg Prod.fst (F.1 125 (12, 92) rfl rfl)) rfl ?_
      refine x_iloadn (x := (-1)) rfl rfl ?_
      refine x_iret rfl rfl ?_
      show jX m_X12_pay 100 0 0 38 [(0, .ref 125), (1, .int a1), (2, .int a2), (3, .int a3), (4, .int a4), (5, .int a5)] [.int (-1)] _ 0 0 _
      refine x_iret rfl rfl ?_
      exact jqe (show sp_pay a1 a2 a3 a4 a5 = (-1) by unfold sp_pay; (repeat' split) <;> first | rfl | (exfalso; omega)) (hQ _ (by repeat (first | exact O | refine jOl_si rfl ?_ | refine jOl_sl rfl ?_ | refine jOl_ci rfl ?_ | refine jOl_cl rfl ?_ | refine jOl_sr rfl ?_)))
    ·
      refine x_iload (x := a5) rfl rfl ?_
      refine x_inst (N := m_X12_isDay) (As := [.int a5]) (st := []) (d' := 99) (mc := 0) (ms := 0) (host := "") rfl t_X12_isDay ⟨Or.inl q_12_273, s_X12_isDay⟩ rfl (by decide) rfl rfl ⟨by decide, by decide⟩ (c_X12_isDay (x := a5) ?_)
      show jX m_X12_pay 100 0 0 30 [(0, .ref 125), (1, .int a1), (2, .int a2), (3, .int a3), (4, .int a4), (5, .int a5)] [.int (jp (0 ≤ a5.toInt ∧ a5.toInt ≤ 146399))] _ 0 0 _
      refine x_ifne (tgt := 39) rfl rfl (jpn ⟨fun c3 => ?_, fun c3 => ?_⟩)
      ·
        refine x_aloadn (x := 125) rfl rfl ?_
        refine x_iloadn (x := a1) rfl rfl ?_
        refine x_inv (N := m_X12_isLevy) (As := [.int a1]) (b := 125) (st := []) (d' := 99) (mc := 0) (ms := 0) (host := "") 12 rfl t_X12_isLevy ⟨Or.inl q_12_824, i_X12_isLevy.1, i_X12_isLevy.2⟩ ⟨by decide, rfl⟩ (congrArg Prod.fst (F.1 125 (12, 92) rfl rfl)) rfl (by decide) rfl rfl ⟨by decide, by decide⟩ (jC.of rfl k_X12_isLevy rfl ?_)
        show jX m_X12_isLevy 99 0 0 0 [(0, .ref 125), (1, .int a1)] [] _ 0 0 _
        refine x_iloadn (x := a1) rfl rfl ?_
        refine x_i2l rfl ?_
        refine x_lconst (v := 0) rfl kl_0 ?_
        refine x_aloadn (x := 125) rfl rfl ?_
        refine x_getR (b := 126) 12 2 rfl f_12_8 rfl (congrArg Prod.fst (F.1 125 (12, 92) rfl rfl)) (F.2.1 16002 126 rfl rfl) ?_
        refine x_bipush (v := 11) rfl kb_11 ?_
        refine y_iald (v := 0) (N := 50660) 11 rfl (F.1 126 (100, 50660) rfl rfl) (jinb_of (by decide)) (by decide) (F.2.2.2.1 126 rfl rfl 11).1 ?_
        refine y_i2l (v := 0) rfl (by decide) ?_
        refine x_lconst (v := 1) rfl kl_1 ?_
        refine y_lsub (v := (-1)) rfl (by decide) ?_
        refine x_inst (N := m_X12_in) (As := [.long (a1.toInt64), .long 0, .long (-1)]) (st := []) (d' := 98) (mc := 0) (ms := 0) (host := "") rfl t_X12_in ⟨Or.inl q_12_188, s_X12_in⟩ rfl (by decide) rfl rfl ⟨by decide, by decide⟩ (c_X12_in (jt_l _) (by decide) (by decide) ?_)
        show jX m_X12_isLevy 99 0 0 16 [(0, .ref 125), (1, .int a1)] [.int (jp (0 ≤ a1.toInt ∧ a1.toInt ≤ (-1)))] _ 0 0 _
        refine x_zret rfl rfl (by first | decide | exact jp_01 _) ?_
        show jX m_X12_pay 100 0 0 44 [(0, .ref 125), (1, .int a1), (2, .int a2), (3, .int a3), (4, .int a4), (5, .int a5)] [.int (jp (0 ≤ a1.toInt ∧ a1.toInt ≤ (-1)))] _ 0 0 _
        refine x_ifeq (tgt := 55) rfl rfl (jpe ⟨fun c4 => ?_, fun c4 => ?_⟩)
        ·
          refine x_aloadn (x := 125) rfl rfl ?_
          refine x_bipush (v := (-2)) rfl kb_m2 ?_
          refine x_inv (N := m_X12_told) (As := [.int (-2)]) (b := 125) (st := []) (d' := 99) (mc := 0) (ms := 0) (host := "") 12 rfl t_X12_told ⟨Or.inl q_12_197, i_X12_told.1, i_X12_told.2⟩ ⟨by decide, rfl⟩ (congrArg Prod.fst (F.1 125 (12, 92) rfl rfl)) rfl (by decide) rfl rfl ⟨by decide, by decide⟩ (jC.of rfl k_X12_told rfl ?_)
          show jX m_X12_told 99 0 0 0 [(0, .ref 125), (1, .int (-2))] [] _ 0 0 _
          refine x_aloadn (x := 125) rfl rfl ?_
          refine x_iloadn (x := (-2)) rfl rfl ?_
          refine x_ifge (tgt := 9) rfl rfl (br_f (by decide) ?_)
          refine x_iloadn (x := (-2)) rfl rfl ?_
          refine x_goto (tgt := 10) rfl rfl ?_
          refine x_putI 12 1 rfl f_12_183 rfl (jfin_no TX12 RX12 92 rfl rfl) (congrArg Prod.fst (F.1 125 (12, 92) rfl rfl)) rfl ?_
          refine x_iloadn (x := (-2)) rfl rfl ?_
          refine x_iret rfl rfl ?_
          show jX m_X12_pay 100 0 0 61 [(0, .ref 125), (1, .int a1), (2, .int a2), (3, .int a3), (4, .int a4), (5, .int a5)] [.int (-2)] _ 0 0 _
          refine x_iret rfl rfl ?_
          exact jqe (show sp_pay a1 a2 a3 a4 a5 = (-2) by unfold sp_pay; (repeat' split) <;> first | rfl | (exfalso; omega)) (hQ _ (by repeat (first | exact O | refine jOl_si rfl ?_ | refine jOl_sl rfl ?_ | refine jOl_ci rfl ?_ | refine jOl_cl rfl ?_ | refine jOl_sr rfl ?_)))
        ·
          refine x_aloadn (x := 125) rfl rfl ?_
          refine x_iloadn (x := a2) rfl rfl ?_
          refine x_inv (N := m_X12_isHolding) (As := [.int a2]) (b := 125) (st := []) (d' := 99) (mc := 0) (ms := 0) (host := "") 12 rfl t_X12_isHolding ⟨Or.inl q_12_811, i_X12_isHolding.1, i_X12_isHolding.2⟩ ⟨by decide, rfl⟩ (congrArg Prod.fst (F.1 125 (12, 92) rfl rfl)) rfl (by decide) rfl rfl ⟨by decide, by decide⟩ (jC.of rfl k_X12_isHolding rfl ?_)
          show jX m_X12_isHolding 99 0 0 0 [(0, .ref 125), (1, .int a2)] [] _ 0 0 _
          refine x_iloadn (x := a2) rfl rfl ?_
          refine x_i2l rfl ?_
          refine x_lconst (v := 0) rfl kl_0 ?_
          refine x_aloadn (x := 125) rfl rfl ?_
          refine x_getR (b := 126) 12 2 rfl f_12_8 rfl (congrArg Prod.fst (F.1 125 (12, 92) rfl rfl)) (F.2.1 16002 126 rfl rfl) ?_
          refine x_bipush (v := 7) rfl kb_7 ?_
          refine y_iald (v := 0) (N := 50660) 7 rfl (F.1 126 (100, 50660) rfl rfl) (jinb_of (by decide)) (by decide) (F.2.2.2.1 126 rfl rfl 7).1 ?_
          refine y_i2l (v := 0) rfl (by decide) ?_
          refine x_lconst (v := 1) rfl kl_1 ?_
          refine y_lsub (v := (-1)) rfl (by decide) ?_
          refine x_inst (N := m_X12_in) (As := [.long (a2.toInt64), .long 0, .long (-1)]) (st := []) (d' := 98) (mc := 0) (ms := 0) (host := "") rfl t_X12_in ⟨Or.inl q_12_188, s_X12_in⟩ rfl (by decide) rfl rfl ⟨by decide, by decide⟩ (c_X12_in (jt_l _) (by decide) (by decide) ?_)
          show jX m_X12_isHolding 99 0 0 16 [(0, .ref 125), (1, .int a2)] [.int (jp (0 ≤ a2.toInt ∧ a2.toInt ≤ (-1)))] _ 0 0 _
          refine x_zret rfl rfl (by first | decide | exact jp_01 _) ?_
          show jX m_X12_pay 100 0 0 52 [(0, .ref 125), (1, .int a1), (2, .int a2), (3, .int a3), (4, .int a4), (5, .int a5)] [.int (jp (0 ≤ a2.toInt ∧ a2.toInt ≤ (-1)))] _ 0 0 _
          refine x_ifne (tgt := 62) rfl rfl (jpn ⟨fun c5 => ?_, fun c5 => ?_⟩)
          ·
            refine x_aloadn (x := 125) rfl rfl ?_
            refine x_getR (b := 126) 12 2 rfl f_12_8 rfl (congrArg Prod.fst (F.1 125 (12, 92) rfl rfl)) (F.2.1 16002 126 rfl rfl) ?_
            refine x_bipush (v := 12) rfl kb_12 ?_
            refine y_iald (v := 0) (N := 50660) 12 rfl (F.1 126 (100, 50660) rfl rfl) (jinb_of (by decide)) (by decide) (F.2.2.2.1 126 rfl rfl 12).1 ?_
            refine x_bipush (v := 100) rfl kb_100 ?_
            refine x_icne (tgt := 81) rfl rfl (bn_t (by decide) ?_)
            refine x_ldcw (v := 48460) rfl z_12_830 ?_
            refine x_iconst (v := 5) rfl ki_5 ?_
            refine x_aloadn (x := 125) rfl rfl ?_
            refine x_getR (b := 126) 12 2 rfl f_12_8 rfl (congrArg Prod.fst (F.1 125 (12, 92) rfl rfl)) (F.2.1 16002 126 rfl rfl) ?_
            refine x_bipush (v := 12) rfl kb_12 ?_
            refine y_iald (v := 0) (N := 50660) 12 rfl (F.1 126 (100, 50660) rfl rfl) (jinb_of (by decide)) (by decide) (F.2.2.2.1 126 rfl rfl 12).1 ?_
            refine y_imul (v := 0) rfl (by decide) ?_
            refine y_iadd (v := 48460) rfl (by decide) ?_
            refine x_istore (ls' := [(6, .int 48460), (0, .ref 125), (1, .int a1), (2, .int a2), (3, .int a3), (4, .int a4), (5, .int a5)]) rfl rfl rfl ?_
            refine x_aloadn (x := 125) rfl rfl ?_
            refine x_iload (x := 48460) rfl rfl ?_
            refine x_iloadn (x := a1) rfl rfl ?_
            refine x_iloadn (x := a2) rfl rfl ?_
            refine x_iloadn (x := a3) rfl rfl ?_
            refine x_iload (x := a4) rfl rfl ?_
            refine x_inv (N := m_X12_addFour) (As := [.int 48460, .int a1, .int a2, .int a3, .int a4]) (b := 125) (st := []) (d' := 99) (mc := 0) (ms := 0) (host := "") 12 rfl t_X12_addFour ⟨Or.inl q_12_814, i_X12_addFour.1, i_X12_addFour.2⟩ ⟨by decide, rfl⟩ (congrArg Prod.fst (F.1 125 (12, 92) rfl rfl)) rfl (by decide) rfl rfl ⟨by decide, by decide⟩ (jC.of rfl k_X12_addFour rfl ?_)
            show jX m_X12_addFour 99 0 0 0 [(0, .ref 125), (1, .int 48460), (2, .int a1), (3, .int a2), (4, .int a3), (5, .int a4)] [] _ 0 0 _
            refine x_aloadn (x := 125) rfl rfl ?_
            refine x_getR (b := 126) 12 2 rfl f_12_8 rfl (congrArg Prod.fst (F.1 125 (12, 92) rfl rfl)) (F.2.1 16002 126 rfl rfl) ?_
            refine x_iloadn (x := 48460) rfl rfl ?_
            refine x_iloadn (x := a1) rfl rfl ?_
            refine y_iast (N := 50660) 48460 rfl (F.1 126 (100, 50660) rfl rfl) rfl (jinb_of (by decide)) (by decide) ?_
            refine x_aloadn (x := 125) rfl rfl ?_
            refine x_getR (b := 126) 12 2 rfl f_12_8 rfl (congrArg Prod.fst (F.1 125 (12, 92) rfl rfl)) (F.2.1 16002 126 rfl rfl) ?_
            refine x_iloadn (x := 48460) rfl rfl ?_
            refine x_iconst (v := 1) rfl ki_1 ?_
            refine y_iadd (v := 48461) rfl (by decide) ?_
            refine x_iloadn (x := a2) rfl rfl ?_
            refine y_iast (N := 50660) 48461 rfl (F.1 126 (100, 50660) rfl rfl) rfl (jinb_of (by decide)) (by decide) ?_
            refine x_aloadn (x := 125) rfl rfl ?_
            refine x_getR (b := 126) 12 2 rfl f_12_8 rfl (congrArg Prod.fst (F.1 125 (12, 92) rfl rfl)) (F.2.1 16002 126 rfl rfl) ?_
            refine x_iloadn (x := 48460) rfl rfl ?_
            refine x_iconst (v := 2) rfl ki_2 ?_
            refine y_iadd (v := 48462) rfl (by decide) ?_
            refine x_iload (x := a3) rfl rfl ?_
            refine y_iast (N := 50660) 48462 rfl (F.1 126 (100, 50660) rfl rfl) rfl (jinb_of (by decide)) (by decide) ?_
            refine x_aloadn (x := 125) rfl rfl ?_
            refine x_getR (b := 126) 12 2 rfl f_12_8 rfl (congrArg Prod.fst (F.1 125 (12, 92) rfl rfl)) (F.2.1 16002 126 rfl rfl) ?_
            refine x_iloadn (x := 48460) rfl rfl ?_
            refine x_iconst (v := 3) rfl ki_3 ?_
            refine y_iadd (v := 48463) rfl (by decide) ?_
            refine x_iload (x := a4) rfl rfl ?_
            refine y_iast (N := 50660) 48463 rfl (F.1 126 (100, 50660) rfl rfl) rfl (jinb_of (by decide)) (by decide) ?_
            refine x_vret rfl rfl ?_
            show jX m_X12_pay 100 0 0 107 [(6, .int 48460), (0, .ref 125), (1, .int a1), (2, .int a2), (3, .int a3), (4, .int a4), (5, .int a5)] [] _ 0 0 _
            refine x_aloadn (x := 125) rfl rfl ?_
            refine x_getR (b := 126) 12 2 rfl f_12_8 rfl (congrArg Prod.fst (F.1 125 (12, 92) rfl rfl)) (F.2.1 16002 126 rfl rfl) ?_
            refine x_iload (x := 48460) rfl rfl ?_
            refine x_iconst (v := 4) rfl ki_4 ?_
            refine y_iadd (v := 48464) rfl (by decide) ?_
            refine x_iload (x := a5) rfl rfl ?_
            refine y_iast (N := 50660) 48464 rfl (F.1 126 (100, 50660) rfl rfl) rfl (jinb_of (by decide)) (by decide) ?_
            refine x_aloadn (x := 125) rfl rfl ?_
            refine x_getR (b := 126) 12 2 rfl f_12_8 rfl (congrArg Prod.fst (F.1 125 (12, 92) rfl rfl)) (F.2.1 16002 126 rfl rfl) ?_
            refine x_bipush (v := 12) rfl kb_12 ?_
            refine x_dup2 rfl rfl rfl ?_
            refine y_iald (v := 0) (N := 50660) 12 rfl (F.1 126 (100, 50660) rfl rfl) (jinb_of (by decide)) (by decide) (F.2.2.2.1 126 rfl rfl 12).1 ?_
            refine x_iconst (v := 1) rfl ki_1 ?_
            refine y_iadd (v := 1) rfl (by decide) ?_
            refine y_iast (N := 50660) 12 rfl (F.1 126 (100, 50660) rfl rfl) rfl (jinb_of (by decide)) (by decide) ?_
            refine x_aloadn (x := 125) rfl rfl ?_
            refine x_aloadn (x := 125) rfl rfl ?_
            refine x_getR (b := 126) 12 2 rfl f_12_8 rfl (congrArg Prod.fst (F.1 125 (12, 92) rfl rfl)) (F.2.1 16002 126 rfl rfl) ?_
            refine x_bipush (v := 12) rfl kb_12 ?_
            refine y_iald (v := 1) (N := 50660) 12 rfl (F.1 126 (100, 50660) rfl rfl) (jinb_of (by decide)) (by decide) rfl ?_
            refine x_inv (N := m_X12_told) (As := [.int 1]) (b := 125) (st := []) (d' := 99) (mc := 0) (ms := 0) (host := "") 12 rfl t_X12_told ⟨Or.inl q_12_197, i_X12_told.1, i_X12_told.2⟩ ⟨by decide, rfl⟩ (congrArg Prod.fst (F.1 125 (12, 92) rfl rfl)) rfl (by decide) rfl rfl ⟨by decide, by decide⟩ (jC.of rfl k_X12_told rfl ?_)
            show jX m_X12_told 99 0 0 0 [(0, .ref 125), (1, .int 1)] [] _ 0 0 _
            refine x_aloadn (x := 125) rfl rfl ?_
            refine x_iloadn (x := 1) rfl rfl ?_
            refine x_ifge (tgt := 9) rfl rfl (br_t (by decide) ?_)
            refine x_iconst (v := 0) rfl ki_0 ?_
            refine x_putI 12 1 rfl f_12_183 rfl (jfin_no TX12 RX12 92 rfl rfl) (congrArg Prod.fst (F.1 125 (12, 92) rfl rfl)) rfl ?_
            refine x_iloadn (x := 1) rfl rfl ?_
            refine x_iret rfl rfl ?_
            show jX m_X12_pay 100 0 0 140 [(6, .int 48460), (0, .ref 125), (1, .int a1), (2, .int a2), (3, .int a3), (4, .int a4), (5, .int a5)] [.int 1] _ 0 0 _
            refine x_iret rfl rfl ?_
            exact jqe (show sp_pay a1 a2 a3 a4 a5 = 1 by unfold sp_pay; (repeat' split) <;> first | rfl | (exfalso; omega)) (hQ _ (by repeat (first | exact O | refine jOl_si rfl ?_ | refine jOl_sl rfl ?_ | refine jOl_ci rfl ?_ | refine jOl_cl rfl ?_ | refine jOl_sr rfl ?_)))
          ·
            refine x_aloadn (x := 125) rfl rfl ?_
            refine x_bipush (v := (-2)) rfl kb_m2 ?_
            refine x_inv (N := m_X12_told) (As := [.int (-2)]) (b := 125) (st := []) (d' := 99) (mc := 0) (ms := 0) (host := "") 12 rfl t_X12_told ⟨Or.inl q_12_197, i_X12_told.1, i_X12_told.2⟩ ⟨by decide, rfl⟩ (congrArg Prod.fst (F.1 125 (12, 92) rfl rfl)) rfl (by decide) rfl rfl ⟨by decide, by decide⟩ (jC.of rfl k_X12_told rfl ?_)
            show jX m_X12_told 99 0 0 0 [(0, .ref 125), (1, .int (-2))] [] _ 0 0 _
            refine x_aloadn (x := 125) rfl rfl ?_
            refine x_iloadn (x := (-2)) rfl rfl ?_
            refine x_ifge (tgt := 9) rfl rfl (br_f (by decide) ?_)
            refine x_iloadn (x := (-2)) rfl rfl ?_
            refine x_goto (tgt := 10) rfl rfl ?_
            refine x_putI 12 1 rfl f_12_183 rfl (jfin_no TX12 RX12 92 rfl rfl) (congrArg Prod.fst (F.1 125 (12, 92) rfl rfl)) rfl ?_
            refine x_iloadn (x := (-2)) rfl rfl ?_
            refine x_iret rfl rfl ?_
            show jX m_X12_pay 100 0 0 61 [(0, .ref 125), (1, .int a1), (2, .int a2), (3, .int a3), (4, .int a4), (5, .int a5)] [.int (-2)] _ 0 0 _
            refine x_iret rfl rfl ?_
            exact jqe (show sp_pay a1 a2 a3 a4 a5 = (-2) by unfold sp_pay; (repeat' split) <;> first | rfl | (exfalso; omega)) (hQ _ (by repeat (first | exact O | refine jOl_si rfl ?_ | refine jOl_sl rfl ?_ | refine jOl_ci rfl ?_ | refine jOl_cl rfl ?_ | refine jOl_sr rfl ?_)))
      ·
        refine x_aloadn (x := 125) rfl rfl ?_
        refine x_iconst (v := (-1)) rfl ki_m1 ?_
        refine x_inv (N := m_X12_told) (As := [.int (-1)]) (b := 125) (st := []) (d' := 99) (mc := 0) (ms := 0) (host := "") 12 rfl t_X12_told ⟨Or.inl q_12_197, i_X12_told.1, i_X12_told.2⟩ ⟨by decide, rfl⟩ (congrArg Prod.fst (F.1 125 (12, 92) rfl rfl)) rfl (by decide) rfl rfl ⟨by decide, by decide⟩ (jC.of rfl k_X12_told rfl ?_)
        show jX m_X12_told 99 0 0 0 [(0, .ref 125), (1, .int (-1))] [] _ 0 0 _
        refine x_aloadn (x := 125) rfl rfl ?_
        refine x_iloadn (x := (-1)) rfl rfl ?_
        refine x_ifge (tgt := 9) rfl rfl (br_f (by decide) ?_)
        refine x_iloadn (x := (-1)) rfl rfl ?_
        refine x_goto (tgt := 10) rfl rfl ?_
        refine x_putI 12 1 rfl f_12_183 rfl (jfin_no TX12 RX12 92 rfl rfl) (congrArg Prod.fst (F.1 125 (12, 92) rfl rfl)) rfl ?_
        refine x_iloadn (x := (-1)) rfl rfl ?_
        refine x_iret rfl rfl ?_
        show jX m_X12_pay 100 0 0 38 [(0, .ref 125), (1, .int a1), (2, .int a2), (3, .int a3), (4, .int a4), (5, .int a5)] [.int (-1)] _ 0 0 _
        refine x_iret rfl rfl ?_
        exact jqe (show sp_pay a1 a2 a3 a4 a5 = (-1) by unfold sp_pay; (repeat' split) <;> first | rfl | (exfalso; omega)) (hQ _ (by repeat (first | exact O | refine jOl_si rfl ?_ | refine jOl_sl rfl ?_ | refine jOl_ci rfl ?_ | refine jOl_cl rfl ?_ | refine jOl_sr rfl ?_)))
def sp_arrear (a1 a2 a3 a4 : Int32) : Int32 := (-2000000000)
set_option maxRecDepth 100000 in
set_option maxHeartbeats 40000000 in
theorem px_arrear (a1 a2 a3 a4 : Int32) {xs : Nat → Int32} {h : jH} {Q : Option Value → jH → Prop} (F : jFb 31 h) (O : jOl 7 xs h) (hQ : ∀ h', jFb 125 h' → jOl 7 xs h' → Q (some (.int (sp_arrear a1 a2 a3 a4))) h') : jC m_X11_arrear 100 0 0 [.ref 31, .int a1, .int a2, .int a3, .int a4] h Q := by
  have FM := jFb_up 125 rfl F
  refine jC.of rfl k_X11_arrear rfl ?_
  show jX m_X11_arrear 100 0 0 0 [(0, .ref 31), (1, .int a1), (2, .int a2), (3, .int a3), (4, .int a4)] [] _ 0 0 _
  refine x_iloadn (x := a3) rfl rfl ?_
  refine x_inst (N := m_X11_isDay) (As := [.int a3]) (st := []) (d' := 99) (mc := 0) (ms := 0) (host := "") rfl t_X11_isDay ⟨Or.inl q_11_115, s_X11_isDay⟩ rfl (by decide) rfl rfl ⟨by decide, by decide⟩ (c_X11_isDay (x := a3) ?_)
  show jX m_X11_arrear 100 0 0 4 [(0, .ref 31), (1, .int a1), (2, .int a2), (3, .int a3), (4, .int a4)] [.int (jp (0 ≤ a3.toInt ∧ a3.toInt ≤ 146399))] _ 0 0 _
  refine x_ifeq (tgt := 39) rfl rfl (jpe ⟨fun c1 => ?_, fun c1 => ?_⟩)
  ·
    refine x_ldcw (v := (-2000000000)) rfl z_11_455 ?_
    refine x_iret rfl rfl ?_
    exact jqe (show sp_arrear a1 a2 a3 a4 = (-2000000000) by unfold sp_arrear; (repeat' split) <;> first | rfl | (exfalso; omega)) (hQ _ (by repeat (first | exact FM | refine jFb_si rfl ?_ | refine jFb_sl rfl ?_ | refine jFb_ci rfl ?_ | refine jFb_cl rfl ?_ | refine jFb_sr rfl ?_)) (by repeat (first | exact O | refine jOl_si rfl ?_ | refine jOl_sl rfl ?_ | refine jOl_ci rfl ?_ | refine jOl_cl rfl ?_ | refine jOl_sr rfl ?_)))
  ·
    refine x_iload (x := a4) rfl rfl ?_
    refine x_inst (N := m_X11_isDay) (As := [.int a4]) (st := []) (d' := 99) (mc := 0) (ms := 0) (host := "") rfl t_X11_isDay ⟨Or.inl q_11_115, s_X11_isDay⟩ rfl (by decide) rfl rfl ⟨by decide, by decide⟩ (c_X11_isDay (x := a4) ?_)
    show jX m_X11_arrear 100 0 0 12 [(0, .ref 31), (1, .int a1), (2, .int a2), (3, .int a3), (4, .int a4)] [.int (jp (0 ≤ a4.toInt ∧ a4.toInt ≤ 146399))] _ 0 0 _
    refine x_ifeq (tgt := 39) rfl rfl (jpe ⟨fun c2 => ?_, fun c2 => ?_⟩)
    ·
      refine x_ldcw (v := (-2000000000)) rfl z_11_455 ?_
      refine x_iret rfl rfl ?_
      exact jqe (show sp_arrear a1 a2 a3 a4 = (-2000000000) by unfold sp_arrear; (repeat' split) <;> first | rfl | (exfalso; omega)) (hQ _ (by repeat (first | exact FM | refine jFb_si rfl ?_ | refine jFb_sl rfl ?_ | refine jFb_ci rfl ?_ | refine jFb_cl rfl ?_ | refine jFb_sr rfl ?_)) (by repeat (first | exact O | refine jOl_si rfl ?_ | refine jOl_sl rfl ?_ | refine jOl_ci rfl ?_ | refine jOl_cl rfl ?_ | refine jOl_sr rfl ?_)))
    ·
      refine x_aloadn (x := 31) rfl rfl ?_
      refine x_getR (b := 32) 11 0 rfl f_11_10 rfl (congrArg Prod.fst (F.1 31 (11, 13) rfl rfl)) (F.2.1 3968 32 rfl rfl) ?_
      refine x_getR (b := 53) 1 10 rfl f_11_437 rfl (congrArg Prod.fst (F.1 32 (1, 20) rfl rfl)) (F.2.1 4106 53 rfl rfl) ?_
      refine x_iloadn (x := a1) rfl rfl ?_
      refine x_iload (x := a4) rfl rfl ?_
      refine x_inv (N := m_X8_isKnown) (As := [.int a1, .int a4]) (b := 53) (st := []) (d' := 99) (mc := 0) (ms := 0) (host := "") 8 rfl t_X8_isKnown ⟨Or.inl q_11_440, i_X8_isKnown.1, i_X8_isKnown.2⟩ ⟨by decide, rfl⟩ (congrArg Prod.fst (F.1 53 (8, 4) rfl rfl)) rfl (by decide) rfl rfl ⟨by decide, by decide⟩ (jC.of rfl k_X8_isKnown rfl ?_)
      show jX m_X8_isKnown 99 0 0 0 [(0, .ref 53), (1, .int a1), (2, .int a4)] [] _ 0 0 _
      refine x_iloadn (x := a1) rfl rfl ?_
      refine x_iflt (tgt := 31) rfl rfl (ti_lt (show (a1 : Int32).toInt = a1.toInt from rfl) (show (0 : Int32).toInt = 0 by decide) ⟨fun c3 => ?_, fun c3 => ?_⟩)
      ·
        refine x_iconst (v := 0) rfl ki_0 ?_
        refine x_zret rfl rfl (by first | decide | exact jp_01 _) ?_
        show jX m_X11_arrear 100 0 0 28 [(0, .ref 31), (1, .int a1), (2, .int a2), (3, .int a3), (4, .int a4)] [.int 0] _ 0 0 _
        refine x_ifeq (tgt := 39) rfl rfl (br_t (by decide) ?_)
        refine x_ldcw (v := (-2000000000)) rfl z_11_455 ?_
        refine x_iret rfl rfl ?_
        exact jqe (show sp_arrear a1 a2 a3 a4 = (-2000000000) by unfold sp_arrear; (repeat' split) <;> first | rfl | (exfalso; omega)) (hQ _ (by repeat (first | exact FM | refine jFb_si rfl ?_ | refine jFb_sl rfl ?_ | refine jFb_ci rfl ?_ | refine jFb_cl rfl ?_ | refine jFb_sr rfl ?_)) (by repeat (first | exact O | refine jOl_si rfl ?_ | refine jOl_sl rfl ?_ | refine jOl_ci rfl ?_ | refine jOl_cl rfl ?_ | refine jOl_sr rfl ?_)))
      ·
        refine x_iloadn (x := a1) rfl rfl ?_
        refine x_aloadn (x := 53) rfl rfl ?_
        refine y_getI (v := 0) 8 3 rfl f_8_7 rfl (congrArg Prod.fst (F.1 53 (8, 4) rfl rfl)) (F.2.2.1 6787 0 rfl rfl) ?_
        refine x_icge (tgt := 31) rfl rfl (ti_ge (show (a1 : Int32).toInt = a1.toInt from rfl) (show (0 : Int32).toInt = 0 by decide) ⟨fun c4 => ?_, fun c4 => ?_⟩)
        ·
          refine x_iconst (v := 0) rfl ki_0 ?_
          refine x_zret rfl rfl (by first | decide | exact jp_01 _) ?_
          show jX m_X11_arrear 100 0 0 28 [(0, .ref 31), (1, .int a1), (2, .int a2), (3, .int a3), (4, .int a4)] [.int 0] _ 0 0 _
          refine x_ifeq (tgt := 39) rfl rfl (br_t (by decide) ?_)
          refine x_ldcw (v := (-2000000000)) rfl z_11_455 ?_
          refine x_iret rfl rfl ?_
          exact jqe (show sp_arrear a1 a2 a3 a4 = (-2000000000) by unfold sp_arrear; (repeat' split) <;> first | rfl | (exfalso; omega)) (hQ _ (by repeat (first | exact FM | refine jFb_si rfl ?_ | refine jFb_sl rfl ?_ | refine jFb_ci rfl ?_ | refine jFb_cl rfl ?_ | refine jFb_sr rfl ?_)) (by repeat (first | exact O | refine jOl_si rfl ?_ | refine jOl_sl rfl ?_ | refine jOl_ci rfl ?_ | refine jOl_cl rfl ?_ | refine jOl_sr rfl ?_)))
        ·
          refine x_aloadn (x := 53) rfl rfl ?_
          refine x_getR (b := 54) 8 2 rfl f_8_25 rfl (congrArg Prod.fst (F.1 53 (8, 4) rfl rfl)) (F.2.1 6786 54 rfl rfl) ?_
          refine x_iloadn (x := a1) rfl rfl ?_
          refine x_aloadn (x := 53) rfl rfl ?_
          refine y_getI (v := 4) 8 0 rfl f_8_19 rfl (congrArg Prod.fst (F.1 53 (8, 4) rfl rfl)) (F.2.2.1 6784 4 rfl rfl) ?_
          refine x_imul rfl ?_
          refine y_iald (v := 0) (N := 160) (a1 * 4).toNatClampNeg rfl (F.1 54 (100, 160) rfl rfl) (vpi (by omega)) rfl (F.2.2.2.1 54 rfl rfl _).1 ?_
          refine x_iloadn (x := a4) rfl rfl ?_
          refine x_icgt (tgt := 31) rfl rfl (ti_gt (show (0 : Int32).toInt = 0 by decide) (show (a4 : Int32).toInt = a4.toInt from rfl) ⟨fun c5 => ?_, fun c5 => ?_⟩)
          ·
            refine x_iconst (v := 0) rfl ki_0 ?_
            refine x_zret rfl rfl (by first | decide | exact jp_01 _) ?_
            show jX m_X11_arrear 100 0 0 28 [(0, .ref 31), (1, .int a1), (2, .int a2), (3, .int a3), (4, .int a4)] [.int 0] _ 0 0 _
            refine x_ifeq (tgt := 39) rfl rfl (br_t (by decide) ?_)
            refine x_ldcw (v := (-2000000000)) rfl z_11_455 ?_
            refine x_iret rfl rfl ?_
            exact jqe (show sp_arrear a1 a2 a3 a4 = (-2000000000) by unfold sp_arrear; (repeat' split) <;> first | rfl | (exfalso; omega)) (hQ _ (by repeat (first | exact FM | refine jFb_si rfl ?_ | refine jFb_sl rfl ?_ | refine jFb_ci rfl ?_ | refine jFb_cl rfl ?_ | refine jFb_sr rfl ?_)) (by repeat (first | exact O | refine jOl_si rfl ?_ | refine jOl_sl rfl ?_ | refine jOl_ci rfl ?_ | refine jOl_cl rfl ?_ | refine jOl_sr rfl ?_)))
          ·
            refine x_iconst (v := 1) rfl ki_1 ?_
            refine x_goto (tgt := 32) rfl rfl ?_
            refine x_zret rfl rfl (by first | decide | exact jp_01 _) ?_
            show jX m_X11_arrear 100 0 0 28 [(0, .ref 31), (1, .int a1), (2, .int a2), (3, .int a3), (4, .int a4)] [.int 1] _ 0 0 _
            refine x_ifeq (tgt := 39) rfl rfl (br_f (by decide) ?_)
            refine x_aloadn (x := 31) rfl rfl ?_
            refine x_iloadn (x := a2) rfl rfl ?_
            refine x_inv (N := m_X11_isHolding) (As := [.int a2]) (b := 31) (st := []) (d' := 99) (mc := 0) (ms := 0) (host := "") 11 rfl t_X11_isHolding ⟨Or.inl q_11_415, i_X11_isHolding.1, i_X11_isHolding.2⟩ ⟨by decide, rfl⟩ (congrArg Prod.fst (F.1 31 (11, 13) rfl rfl)) rfl (by decide) rfl rfl ⟨by decide, by decide⟩ (jC.of rfl k_X11_isHolding rfl ?_)
            show jX m_X11_isHolding 99 0 0 0 [(0, .ref 31), (1, .int a2)] [] _ 0 0 _
            refine x_iloadn (x := a2) rfl rfl ?_
            refine x_iflt (tgt := 28) rfl rfl (ti_lt (show (a2 : Int32).toInt = a2.toInt from rfl) (show (0 : Int32).toInt = 0 by decide) ⟨fun c6 => ?_, fun c6 => ?_⟩)
            ·
              refine x_iconst (v := 0) rfl ki_0 ?_
              refine x_zret rfl rfl (by first | decide | exact jp_01 _) ?_
              show jX m_X11_arrear 100 0 0 36 [(0, .ref 31), (1, .int a1), (2, .int a2), (3, .int a3), (4, .int a4)] [.int 0] _ 0 0 _
              refine x_ifne (tgt := 43) rfl rfl (bn_f (by decide) ?_)
              refine x_ldcw (v := (-2000000000)) rfl z_11_455 ?_
              refine x_iret rfl rfl ?_
              exact jqe (show sp_arrear a1 a2 a3 a4 = (-2000000000) by unfold sp_arrear; (repeat' split) <;> first | rfl | (exfalso; omega)) (hQ _ (by repeat (first | exact FM | refine jFb_si rfl ?_ | refine jFb_sl rfl ?_ | refine jFb_ci rfl ?_ | refine jFb_cl rfl ?_ | refine jFb_sr rfl ?_)) (by repeat (first | exact O | refine jOl_si rfl ?_ | refine jOl_sl rfl ?_ | refine jOl_ci rfl ?_ | refine jOl_cl rfl ?_ | refine jOl_sr rfl ?_)))
            ·
              refine x_iloadn (x := a2) rfl rfl ?_
              refine x_aloadn (x := 31) rfl rfl ?_
              refine x_getR (b := 32) 11 0 rfl f_11_10 rfl (congrArg Prod.fst (F.1 31 (11, 13) rfl rfl)) (F.2.1 3968 32 rfl rfl) ?_
              refine x_getR (b := 49) 1 8 rfl f_11_408 rfl (congrArg Prod.fst (F.1 32 (1, 20) rfl rfl)) (F.2.1 4104 49 rfl rfl) ?_
              refine y_getI (v := 0) 8 3 rfl f_11_142 rfl (congrArg Prod.fst (F.1 49 (8, 4) rfl rfl)) (F.2.2.1 6275 0 rfl rfl) ?_
              refine x_icge (tgt := 28) rfl rfl (ti_ge (show (a2 : Int32).toInt = a2.toInt from rfl) (show (0 : Int32).toInt = 0 by decide) ⟨fun c7 => ?_, fun c7 => ?_⟩)
              ·
                refine x_iconst (v := 0) rfl ki_0 ?_
                refine x_zret rfl rfl (by first | decide | exact jp_01 _) ?_
                show jX m_X11_arrear 100 0 0 36 [(0, .ref 31), (1, .int a1), (2, .int a2), (3, .int a3), (4, .int a4)] [.int 0] _ 0 0 _
                refine x_ifne (tgt := 43) rfl rfl (bn_f (by decide) ?_)
                refine x_ldcw (v := (-2000000000)) rfl z_11_455 ?_
                refine x_iret rfl rfl ?_
                exact jqe (show sp_arrear a1 a2 a3 a4 = (-2000000000) by unfold sp_arrear; (repeat' split) <;> first | rfl | (exfalso; omega)) (hQ _ (by repeat (first | exact FM | refine jFb_si rfl ?_ | refine jFb_sl rfl ?_ | refine jFb_ci rfl ?_ | refine jFb_cl rfl ?_ | refine jFb_sr rfl ?_)) (by repeat (first | exact O | refine jOl_si rfl ?_ | refine jOl_sl rfl ?_ | refine jOl_ci rfl ?_ | refine jOl_cl rfl ?_ | refine jOl_sr rfl ?_)))
              ·
                refine x_iloadn (x := a2) rfl rfl ?_
                refine x_bipush (v := 40) rfl kb_40 ?_
                refine x_icge (tgt := 28) rfl rfl (ti_ge (show (a2 : Int32).toInt = a2.toInt from rfl) (show (40 : Int32).toInt = 40 by decide) ⟨fun c8 => ?_, fun c8 => ?_⟩)
                ·
                  refine x_iconst (v := 0) rfl ki_0 ?_
                  refine x_zret rfl rfl (by first | decide | exact jp_01 _) ?_
                  show jX m_X11_arrear 100 0 0 36 [(0, .ref 31), (1, .int a1), (2, .int a2), (3, .int a3), (4, .int a4)] [.int 0] _ 0 0 _
                  refine x_ifne (tgt := 43) rfl rfl (bn_f (by decide) ?_)
                  refine x_ldcw (v := (-2000000000)) rfl z_11_455 ?_
                  refine x_iret rfl rfl ?_
                  exact jqe (show sp_arrear a1 a2 a3 a4 = (-2000000000) by unfold sp_arrear; (repeat' split) <;> first | rfl | (exfalso; omega)) (hQ _ (by repeat (first | exact FM | refine jFb_si rfl ?_ | refine jFb_sl rfl ?_ | refine jFb_ci rfl ?_ | refine jFb_cl rfl ?_ | refine jFb_sr rfl ?_)) (by repeat (first | exact O | refine jOl_si rfl ?_ | refine jOl_sl rfl ?_ | refine jOl_ci rfl ?_ | refine jOl_cl rfl ?_ | refine jOl_sr rfl ?_)))
                ·
                  refine x_iconst (v := 1) rfl ki_1 ?_
                  refine x_goto (tgt := 29) rfl rfl ?_
                  refine x_zret rfl rfl (by first | decide | exact jp_01 _) ?_
                  show jX m_X11_arrear 100 0 0 36 [(0, .ref 31), (1, .int a1), (2, .int a2), (3, .int a3), (4, .int a4)] [.int 1] _ 0 0 _
                  refine x_ifne (tgt := 43) rfl rfl (bn_t (by decide) ?_)
                  refine x_aloadn (x := 31) rfl rfl ?_
                  refine x_getR (b := 78) 11 4 rfl f_11_41 rfl (congrArg Prod.fst (F.1 31 (11, 13) rfl rfl)) (F.2.1 3972 78 rfl rfl) ?_
                  refine x_iload (x := a4) rfl rfl ?_
                  refine x_inv (N := m_X7_asKnown) (As := [.int a4]) (b := 78) (st := []) (d' := 99) (mc := 0) (ms := 0) (host := "") 7 rfl t_X7_asKnown ⟨Or.inl q_11_240, i_X7_asKnown.1, i_X7_asKnown.2⟩ ⟨by decide, rfl⟩ (congrArg Prod.fst (F.1 78 (7, 16) rfl rfl)) rfl (by decide) rfl rfl ⟨by decide, by decide⟩ (jC.of rfl k_X7_asKnown rfl ?_)
                  show jX m_X7_asKnown 99 0 0 0 [(0, .ref 78), (1, .int a4)] [] _ 0 0 _
                  refine x_aloadn (x := 78) rfl rfl ?_
                  refine x_getR (b := 86) 7 15 rfl f_7_52 rfl (congrArg Prod.fst (F.1 78 (7, 16) rfl rfl)) (F.2.1 9999 86 rfl rfl) ?_
                  refine x_iloadn (x := a4) rfl rfl ?_
                  refine x_iconst (v := 0) rfl ki_0 ?_
                  refine x_aloadn (x := 78) rfl rfl ?_
                  refine x_getR (b := 32) 7 0 rfl f_7_55 rfl (congrArg Prod.fst (F.1 78 (7, 16) rfl rfl)) (F.2.1 9984 32 rfl rfl) ?_
                  refine y_getI (v := 1) 1 19 rfl f_7_140 rfl (congrArg Prod.fst (F.1 32 (1, 20) rfl rfl)) (F.2.2.1 4115 1 rfl rfl) ?_
                  refine x_inst (N := m_X11_isFresh) (As := [.ref 86, .int a4, .int 0, .int 1]) (st := []) (d' := 98) (mc := 0) (ms := 0) (host := "ParishChest") rfl t_X11_isFresh ⟨Or.inr q_7_143, s_X11_isFresh⟩ rfl (by decide) rfl rfl ⟨by decide, by decide⟩ (jC.of rfl k_X11_isFresh rfl ?_)
                  show jX m_X11_isFresh 98 0 0 0 [(0, .ref 86), (1, .int a4), (2, .int 0), (3, .int 1)] [] _ 0 0 _
                  refine x_aloadn (x := 86) rfl rfl ?_
                  refine y_alen (N := 3) (v := 3) rfl (F.1 86 (100, 3) rfl rfl) (by decide) (by decide) ?_
                  refine x_iconst (v := 3) rfl ki_3 ?_
                  refine x_icge (tgt := 8) rfl rfl (br_t (by decide) ?_)
                  refine x_aloadn (x := 86) rfl rfl ?_
                  refine x_iconst (v := 0) rfl ki_0 ?_
                  refine y_iald (v := 0) (N := 3) 0 rfl (F.1 86 (100, 3) rfl rfl) (jinb_of (by decide)) (by decide) (F.2.2.2.1 86 rfl rfl 0).1 ?_
                  refine x_iloadn (x := a4) rfl rfl ?_
                  refine x_icne (tgt := 33) rfl rfl (ti_ne (show (0 : Int32).toInt = 0 by decide) (show (a4 : Int32).toInt = a4.toInt from rfl) ⟨fun c9 => ?_, fun c9 => ?_⟩)
                  ·
                    refine x_iconst (v := 0) rfl ki_0 ?_
                    refine x_istore (ls' := [(4, .int 0), (0, .ref 86), (1, .int a4), (2, .int 0), (3, .int 1)]) rfl rfl rfl ?_
                    refine x_aloadn (x := 86) rfl rfl ?_
                    refine x_iconst (v := 0) rfl ki_0 ?_
                    refine x_iloadn (x := a4) rfl rfl ?_
                    refine y_iast (N := 3) 0 rfl (F.1 86 (100, 3) rfl rfl) rfl (jinb_of (by decide)) (by decide) ?_
                    refine x_aloadn (x := 86) rfl rfl ?_
                    refine x_iconst (v := 1) rfl ki_1 ?_
                    refine x_iloadn (x := 0) rfl rfl ?_
                    refine y_iast (N := 3) 1 rfl (F.1 86 (100, 3) rfl rfl) rfl (jinb_of (by decide)) (by decide) ?_
                    refine x_aloadn (x := 86) rfl rfl ?_
                    refine x_iconst (v := 2) rfl ki_2 ?_
                    refine x_iloadn (x := 1) rfl rfl ?_
                    refine y_iast (N := 3) 2 rfl (F.1 86 (100, 3) rfl rfl) rfl (jinb_of (by decide)) (by decide) ?_
                    refine x_iload (x := 0) rfl rfl ?_
                    refine x_zret rfl rfl (by first | decide | exact jp_01 _) ?_
                    show jX m_X7_asKnown 99 0 0 16 [(0, .ref 78), (1, .int a4)] [.int 0] _ 0 0 _
                    refine x_ifeq (tgt := 20) rfl rfl (br_t (by decide) ?_)
                    refine x_iconst (v := 0) rfl ki_0 ?_
                    refine x_istoren (ls' := [(2, .int 0), (0, .ref 78), (1, .int a4)]) rfl rfl rfl ?_
                    refine x_iloadn (x := 0) rfl rfl ?_
                    refine x_aloadn (x := 78) rfl rfl ?_
                    refine x_getR (b := 32) 7 0 rfl f_7_55 rfl (congrArg Prod.fst (F.1 78 (7, 16) rfl rfl)) (F.2.1 9984 32 rfl rfl) ?_
                    refine x_getR (b := 33) 1 0 rfl f_7_63 rfl (congrArg Prod.fst (F.1 32 (1, 20) rfl rfl)) (F.2.1 4096 33 rfl rfl) ?_
                    refine y_getI (v := 0) 8 3 rfl f_7_85 rfl (congrArg Prod.fst (F.1 33 (8, 4) rfl rfl)) (F.2.2.1 4227 0 rfl rfl) ?_
                    refine x_iconst (v := 3) rfl ki_3 ?_
                    refine y_imul (v := 0) rfl (by decide) ?_
                    refine x_icge (tgt := 96) rfl rfl (br_t (by decide) ?_)
                    refine x_aloadn (x := 78) rfl rfl ?_
                    refine x_iconst (v := 0) rfl ki_0 ?_
                    refine x_putI 7 13 rfl f_7_46 rfl (jfin_no TX7 RX7 16 rfl rfl) (congrArg Prod.fst (F.1 78 (7, 16) rfl rfl)) rfl ?_
                    refine x_iconst (v := 0) rfl ki_0 ?_
                    refine x_istoren (ls' := [(2, .int 0), (0, .ref 78), (1, .int a4)]) rfl rfl rfl ?_
                    refine x_iloadn (x := 0) rfl rfl ?_
                    refine x_aloadn (x := 78) rfl rfl ?_
                    refine x_getR (b := 32) 7 0 rfl f_7_55 rfl (congrArg Prod.fst (F.1 78 (7, 16) rfl rfl)) (F.2.1 9984 32 rfl rfl) ?_
                    refine x_getR (b := 39) 1 3 rfl f_7_150 rfl (congrArg Prod.fst (F.1 32 (1, 20) rfl rfl)) (F.2.1 4099 39 rfl rfl) ?_
                    refine y_getI (v := 0) 8 3 rfl f_7_85 rfl (congrArg Prod.fst (F.1 39 (8, 4) rfl rfl)) (F.2.2.1 4995 0 rfl rfl) ?_
                    refine x_icge (tgt := 175) rfl rfl (br_t (by decide) ?_)
                    refine x_vret rfl rfl ?_
                    show jX m_X11_arrear 100 0 0 52 [(0, .ref 31), (1, .int a1), (2, .int a2), (3, .int a3), (4, .int a4)] [] _ 0 0 _
                    refine x_aloadn (x := 31) rfl rfl ?_
                    refine x_getR (b := 107) 11 8 rfl f_11_75 rfl (congrArg Prod.fst (F.1 31 (11, 13) rfl rfl)) (F.2.1 3976 107 rfl rfl) ?_
                    refine x_iloadn (x := a1) rfl rfl ?_
                    refine x_iload (x := a4) rfl rfl ?_
                    refine x_inv (N := m_X4_partOut) (As := [.int a1, .int a4]) (b := 107) (st := []) (d' := 99) (mc := 0) (ms := 0) (host := "") 4 rfl t_X4_partOut ⟨Or.inl q_11_443, i_X4_partOut.1, i_X4_partOut.2⟩ ⟨by decide, rfl⟩ (congrArg Prod.fst (F.1 107 (4, 18) rfl rfl)) rfl (by decide) rfl rfl ⟨by decide, by decide⟩ (jC.of rfl k_X4_partOut rfl ?_)
                    show jX m_X4_partOut 99 0 0 0 [(0, .ref 107), (1, .int a1), (2, .int a4)] [] _ 0 0 _
                    refine x_aloadn (x := 107) rfl rfl ?_
                    refine x_getR (b := 111) 4 6 rfl f_4_22 rfl (congrArg Prod.fst (F.1 107 (4, 18) rfl rfl)) (F.2.1 13702 111 rfl rfl) ?_
                    refine x_iloadn (x := a1) rfl rfl ?_
                    refine x_iloadn (x := a4) rfl rfl ?_
                    refine x_aloadn (x := 107) rfl rfl ?_
                    refine x_getR (b := 32) 4 0 rfl f_4_59 rfl (congrArg Prod.fst (F.1 107 (4, 18) rfl rfl)) (F.2.1 13696 32 rfl rfl) ?_
                    refine y_getI (v := 1) 1 19 rfl f_4_88 rfl (congrArg Prod.fst (F.1 32 (1, 20) rfl rfl)) (F.2.2.1 4115 1 rfl rfl) ?_
                    refine x_inst (N := m_X11_isFresh) (As := [.ref 111, .int a1, .int a4, .int 1]) (st := []) (d' := 98) (mc := 0) (ms := 0) (host := "ParishChest") rfl t_X11_isFresh ⟨Or.inr q_4_91, s_X11_isFresh⟩ rfl (by decide) rfl rfl ⟨by decide, by decide⟩ (jC.of rfl k_X11_isFresh rfl ?_)
                    show jX m_X11_isFresh 98 0 0 0 [(0, .ref 111), (1, .int a1), (2, .int a4), (3, .int 1)] [] _ 0 0 _
                    refine x_aloadn (x := 111) rfl rfl ?_
                    refine y_alen (N := 3) (v := 3) rfl (F.1 111 (100, 3) rfl rfl) (by decide) (by decide) ?_
                    refine x_iconst (v := 3) rfl ki_3 ?_
                    refine x_icge (tgt := 8) rfl rfl (br_t (by decide) ?_)
                    refine x_aloadn (x := 111) rfl rfl ?_
                    refine x_iconst (v := 0) rfl ki_0 ?_
                    refine y_iald (v := 0) (N := 3) 0 rfl (F.1 111 (100, 3) rfl rfl) (jinb_of (by decide)) (by decide) (F.2.2.2.1 111 rfl rfl 0).1 ?_
                    refine x_iloadn (x := a1) rfl rfl ?_
                    refine x_icne (tgt := 33) rfl rfl (ti_ne (show (0 : Int32).toInt = 0 by decide) (show (a1 : Int32).toInt = a1.toInt from rfl) ⟨fun c10 => ?_, fun c10 => ?_⟩)
                    ·
                      refine x_iconst (v := 0) rfl ki_0 ?_
                      refine x_istore (ls' := [(4, .int 0), (0, .ref 111), (1, .int a1), (2, .int a4), (3, .int 1)]) rfl rfl rfl ?_
                      refine x_aloadn (x := 111) rfl rfl ?_
                      refine x_iconst (v := 0) rfl ki_0 ?_
                      refine x_iloadn (x := a1) rfl rfl ?_
                      refine y_iast (N := 3) 0 rfl (F.1 111 (100, 3) rfl rfl) rfl (jinb_of (by decide)) (by decide) ?_
                      refine x_aloadn (x := 111) rfl rfl ?_
                      refine x_iconst (v := 1) rfl ki_1 ?_
                      refine x_iloadn (x := a4) rfl rfl ?_
                      refine y_iast (N := 3) 1 rfl (F.1 111 (100, 3) rfl rfl) rfl (jinb_of (by decide)) (by decide) ?_
                      refine x_aloadn (x := 111) rfl rfl ?_
                      refine x_iconst (v := 2) rfl ki_2 ?_
                      refine x_iloadn (x := 1) rfl rfl ?_
                      refine y_iast (N := 3) 2 rfl (F.1 111 (100, 3) rfl rfl) rfl (jinb_of (by decide)) (by decide) ?_
                      refine x_iload (x := 0) rfl rfl ?_
                      refine x_zret rfl rfl (by first | decide | exact jp_01 _) ?_
                      show jX m_X4_partOut 99 0 0 16 [(0, .ref 107), (1, .int a1), (2, .int a4)] [.int 0] _ 0 0 _
                      refine x_ifeq (tgt := 20) rfl rfl (br_t (by decide) ?_)
                      refine x_aloadn (x := 107) rfl rfl ?_
                      refine x_getR (b := 32) 4 0 rfl f_4_59 rfl (congrArg Prod.fst (F.1 107 (4, 18) rfl rfl)) (F.2.1 13696 32 rfl rfl) ?_
                      refine x_getR (b := 53) 1 10 rfl f_4_95 rfl (congrArg Prod.fst (F.1 32 (1, 20) rfl rfl)) (F.2.1 4106 53 rfl rfl) ?_
                      refine x_iloadn (x := a1) rfl rfl ?_
                      refine x_iconst (v := 2) rfl ki_2 ?_
                      refine x_inv (N := m_X8_at) (As := [.int a1, .int 2]) (b := 53) (st := []) (d' := 98) (mc := 0) (ms := 0) (host := "") 8 rfl t_X8_at ⟨Or.inl q_4_98, i_X8_at.1, i_X8_at.2⟩ ⟨by decide, rfl⟩ (congrArg Prod.fst (F.1 53 (8, 4) rfl rfl)) rfl (by decide) rfl rfl ⟨by decide, by decide⟩ (jC.of rfl k_X8_at rfl ?_)
                      show jX m_X8_at 98 0 0 0 [(0, .ref 53), (1, .int a1), (2, .int 2)] [] _ 0 0 _
                      refine x_iloadn (x := a1) rfl rfl ?_
                      refine x_iflt (tgt := 24) rfl rfl (ti_lt (show (a1 : Int32).toInt = a1.toInt from rfl) (show (0 : Int32).toInt = 0 by decide) (br_f c3 ?_))
                      refine x_iloadn (x := a1) rfl rfl ?_
                      refine x_aloadn (x := 53) rfl rfl ?_
                      refine y_getI (v := 0) 8 3 rfl f_8_7 rfl (congrArg Prod.fst (F.1 53 (8, 4) rfl rfl)) (F.2.2.1 6787 0 rfl rfl) ?_
                      refine x_icge (tgt := 24) rfl rfl (ti_ge (show (a1 : Int32).toInt = a1.toInt from rfl) (show (0 : Int32).toInt = 0 by decide) (br_f c4 ?_))
                      refine x_iloadn (x := 2) rfl rfl ?_
                      refine x_iflt (tgt := 24) rfl rfl (br_f (by decide) ?_)
                      refine x_iloadn (x := 2) rfl rfl ?_
                      refine x_aloadn (x := 53) rfl rfl ?_
                      refine y_getI (v := 4) 8 0 rfl f_8_19 rfl (congrArg Prod.fst (F.1 53 (8, 4) rfl rfl)) (F.2.2.1 6784 4 rfl rfl) ?_
                      refine x_iclt (tgt := 26) rfl rfl (br_t (by decide) ?_)
                      refine x_aloadn (x := 53) rfl rfl ?_
                      refine x_getR (b := 54) 8 2 rfl f_8_25 rfl (congrArg Prod.fst (F.1 53 (8, 4) rfl rfl)) (F.2.1 6786 54 rfl rfl) ?_
                      refine x_iloadn (x := a1) rfl rfl ?_
                      refine x_aloadn (x := 53) rfl rfl ?_
                      refine y_getI (v := 4) 8 0 rfl f_8_19 rfl (congrArg Prod.fst (F.1 53 (8, 4) rfl rfl)) (F.2.2.1 6784 4 rfl rfl) ?_
                      refine x_imul rfl ?_
                      refine x_iloadn (x := 2) rfl rfl ?_
                      refine x_iadd rfl ?_
                      refine y_iald (v := 0) (N := 160) ((a1 * 4) + 2).toNatClampNeg rfl (F.1 54 (100, 160) rfl rfl) (vpi (by omega)) rfl (F.2.2.2.1 54 rfl rfl _).1 ?_
                      refine x_iret rfl rfl ?_
                      show jX m_X4_partOut 99 0 0 32 [(0, .ref 107), (1, .int a1), (2, .int a4)] [.int 0] _ 0 0 _
                      refine x_istoren (ls' := [(3, .int 0), (0, .ref 107), (1, .int a1), (2, .int a4)]) rfl rfl rfl ?_
                      refine x_aloadn (x := 107) rfl rfl ?_
                      refine x_getR (b := 32) 4 0 rfl f_4_59 rfl (congrArg Prod.fst (F.1 107 (4, 18) rfl rfl)) (F.2.1 13696 32 rfl rfl) ?_
                      refine x_getR (b := 53) 1 10 rfl f_4_95 rfl (congrArg Prod.fst (F.1 32 (1, 20) rfl rfl)) (F.2.1 4106 53 rfl rfl) ?_
                      refine x_iloadn (x := a1) rfl rfl ?_
                      refine x_iconst (v := 3) rfl ki_3 ?_
                      refine x_inv (N := m_X8_at) (As := [.int a1, .int 3]) (b := 53) (st := []) (d' := 98) (mc := 0) (ms := 0) (host := "") 8 rfl t_X8_at ⟨Or.inl q_4_98, i_X8_at.1, i_X8_at.2⟩ ⟨by decide, rfl⟩ (congrArg Prod.fst (F.1 53 (8, 4) rfl rfl)) rfl (by decide) rfl rfl ⟨by decide, by decide⟩ (jC.of rfl k_X8_at rfl ?_)
                      show jX m_X8_at 98 0 0 0 [(0, .ref 53), (1, .int a1), (2, .int 3)] [] _ 0 0 _
                      refine x_iloadn (x := a1) rfl rfl ?_
                      refine x_iflt (tgt := 24) rfl rfl (ti_lt (show (a1 : Int32).toInt = a1.toInt from rfl) (show (0 : Int32).toInt = 0 by decide) (br_f c3 ?_))
                      refine x_iloadn (x := a1) rfl rfl ?_
                      refine x_aloadn (x := 53) rfl rfl ?_
                      refine y_getI (v := 0) 8 3 rfl f_8_7 rfl (congrArg Prod.fst (F.1 53 (8, 4) rfl rfl)) (F.2.2.1 6787 0 rfl rfl) ?_
                      refine x_icge (tgt := 24) rfl rfl (ti_ge (show (a1 : Int32).toInt = a1.toInt from rfl) (show (0 : Int32).toInt = 0 by decide) (br_f c4 ?_))
                      refine x_iloadn (x := 3) rfl rfl ?_
                      refine x_iflt (tgt := 24) rfl rfl (br_f (by decide) ?_)
                      refine x_iloadn (x := 3) rfl rfl ?_
                      refine x_aloadn (x := 53) rfl rfl ?_
                      refine y_getI (v := 4) 8 0 rfl f_8_19 rfl (congrArg Prod.fst (F.1 53 (8, 4) rfl rfl)) (F.2.2.1 6784 4 rfl rfl) ?_
                      refine x_iclt (tgt := 26) rfl rfl (br_t (by decide) ?_)
                      refine x_aloadn (x := 53) rfl rfl ?_
                      refine x_getR (b := 54) 8 2 rfl f_8_25 rfl (congrArg Prod.fst (F.1 53 (8, 4) rfl rfl)) (F.2.1 6786 54 rfl rfl) ?_
                      refine x_iloadn (x := a1) rfl rfl ?_
                      refine x_aloadn (x := 53) rfl rfl ?_
                      refine y_getI (v := 4) 8 0 rfl f_8_19 rfl (congrArg Prod.fst (F.1 53 (8, 4) rfl rfl)) (F.2.2.1 6784 4 rfl rfl) ?_
                      refine x_imul rfl ?_
                      refine x_iloadn (x := 3) rfl rfl ?_
                      refine x_iadd rfl ?_
                      refine y_iald (v := 0) (N := 160) ((a1 * 4) + 3).toNatClampNeg rfl (F.1 54 (100, 160) rfl rfl) (vpi (by omega)) rfl (F.2.2.2.1 54 rfl rfl _).1 ?_
                      refine x_iret rfl rfl ?_
                      show jX m_X4_partOut 99 0 0 45 [(3, .int 0), (0, .ref 107), (1, .int a1), (2, .int a4)] [.int 0] _ 0 0 _
                      refine x_istore (ls' := [(4, .int 0), (3, .int 0), (0, .ref 107), (1, .int a1), (2, .int a4)]) rfl rfl rfl ?_
                      refine x_aloadn (x := 107) rfl rfl ?_
                      refine x_getR (b := 98) 4 2 rfl f_4_67 rfl (congrArg Prod.fst (F.1 107 (4, 18) rfl rfl)) (F.2.1 13698 98 rfl rfl) ?_
                      refine x_aloadn (x := 107) rfl rfl ?_
                      refine x_getR (b := 32) 4 0 rfl f_4_59 rfl (congrArg Prod.fst (F.1 107 (4, 18) rfl rfl)) (F.2.1 13696 32 rfl rfl) ?_
                      refine x_getR (b := 53) 1 10 rfl f_4_95 rfl (congrArg Prod.fst (F.1 32 (1, 20) rfl rfl)) (F.2.1 4106 53 rfl rfl) ?_
                      refine x_iloadn (x := a1) rfl rfl ?_
                      refine x_iconst (v := 1) rfl ki_1 ?_
                      refine x_inv (N := m_X8_at) (As := [.int a1, .int 1]) (b := 53) (st := [.ref 98]) (d' := 98) (mc := 0) (ms := 0) (host := "") 8 rfl t_X8_at ⟨Or.inl q_4_98, i_X8_at.1, i_X8_at.2⟩ ⟨by decide, rfl⟩ (congrArg Prod.fst (F.1 53 (8, 4) rfl rfl)) rfl (by decide) rfl rfl ⟨by decide, by decide⟩ (jC.of rfl k_X8_at rfl ?_)
                      show jX m_X8_at 98 0 0 0 [(0, .ref 53), (1, .int a1), (2, .int 1)] [] _ 0 0 _
                      refine x_iloadn (x := a1) rfl rfl ?_
                      refine x_iflt (tgt := 24) rfl rfl (ti_lt (show (a1 : Int32).toInt = a1.toInt from rfl) (show (0 : Int32).toInt = 0 by decide) (br_f c3 ?_))
                      refine x_iloadn (x := a1) rfl rfl ?_
                      refine x_aloadn (x := 53) rfl rfl ?_
                      refine y_getI (v := 0) 8 3 rfl f_8_7 rfl (congrArg Prod.fst (F.1 53 (8, 4) rfl rfl)) (F.2.2.1 6787 0 rfl rfl) ?_
                      refine x_icge (tgt := 24) rfl rfl (ti_ge (show (a1 : Int32).toInt = a1.toInt from rfl) (show (0 : Int32).toInt = 0 by decide) (br_f c4 ?_))
                      refine x_iloadn (x := 1) rfl rfl ?_
                      refine x_iflt (tgt := 24) rfl rfl (br_f (by decide) ?_)
                      refine x_iloadn (x := 1) rfl rfl ?_
                      refine x_aloadn (x := 53) rfl rfl ?_
                      refine y_getI (v := 4) 8 0 rfl f_8_19 rfl (congrArg Prod.fst (F.1 53 (8, 4) rfl rfl)) (F.2.2.1 6784 4 rfl rfl) ?_
                      refine x_iclt (tgt := 26) rfl rfl (br_t (by decide) ?_)
                      refine x_aloadn (x := 53) rfl rfl ?_
                      refine x_getR (b := 54) 8 2 rfl f_8_25 rfl (congrArg Prod.fst (F.1 53 (8, 4) rfl rfl)) (F.2.1 6786 54 rfl rfl) ?_
                      refine x_iloadn (x := a1) rfl rfl ?_
                      refine x_aloadn (x := 53) rfl rfl ?_
                      refine y_getI (v := 4) 8 0 rfl f_8_19 rfl (congrArg Prod.fst (F.1 53 (8, 4) rfl rfl)) (F.2.2.1 6784 4 rfl rfl) ?_
                      refine x_imul rfl ?_
                      refine x_iloadn (x := 1) rfl rfl ?_
                      refine x_iadd rfl ?_
                      refine y_iald (v := 0) (N := 160) ((a1 * 4) + 1).toNatClampNeg rfl (F.1 54 (100, 160) rfl rfl) (vpi (by omega)) rfl (F.2.2.2.1 54 rfl rfl _).1 ?_
                      refine x_iret rfl rfl ?_
                      show jX m_X4_partOut 99 0 0 63 [(4, .int 0), (3, .int 0), (0, .ref 107), (1, .int a1), (2, .int a4)] [.int 0, .ref 98] _ 0 0 _
                      refine x_sipush (v := 366) rfl ks_366 ?_
                      refine y_imul (v := 0) rfl (by decide) ?_
                      refine x_iloadn (x := a4) rfl rfl ?_
                      refine x_inv (N := m_X0_turnTo) (As := [.int 0, .int a4]) (b := 98) (st := []) (d' := 98) (mc := 0) (ms := 0) (host := "") 0 rfl t_X0_turnTo ⟨Or.inl q_4_101, i_X0_turnTo.1, i_X0_turnTo.2⟩ ⟨by decide, rfl⟩ (congrArg Prod.fst (F.1 98 (0, 16) rfl rfl)) rfl (by decide) rfl rfl ⟨by decide, by decide⟩ (jC.of rfl k_X0_turnTo rfl ?_)
                      show jX m_X0_turnTo 98 0 0 0 [(0, .ref 98), (1, .int 0), (2, .int a4)] [] _ 0 0 _
                      refine x_aloadn (x := 98) rfl rfl ?_
                      refine x_iloadn (x := 0) rfl rfl ?_
                      refine x_iloadn (x := a4) rfl rfl ?_
                      refine x_inv (N := m_X0_readLaws) (As := [.int 0, .int a4]) (b := 98) (st := []) (d' := 97) (mc := 0) (ms := 0) (host := "") 0 rfl t_X0_readLaws ⟨Or.inl q_0_65, i_X0_readLaws.1, i_X0_readLaws.2⟩ ⟨by decide, rfl⟩ (congrArg Prod.fst (F.1 98 (0, 16) rfl rfl)) rfl (by decide) rfl rfl ⟨by decide, by decide⟩ (jC.of rfl k_X0_readLaws rfl ?_)
                      show jX m_X0_readLaws 97 0 0 0 [(0, .ref 98), (1, .int 0), (2, .int a4)] [] _ 0 0 _
                      refine x_aloadn (x := 98) rfl rfl ?_
                      refine x_iloadn (x := 0) rfl rfl ?_
                      refine x_putI 0 10 rfl f_0_37 rfl (jfin_no TX0 RX0 16 rfl rfl) (congrArg Prod.fst (F.1 98 (0, 16) rfl rfl)) rfl ?_
                      refine x_aloadn (x := 98) rfl rfl ?_
                      refine x_iloadn (x := a4) rfl rfl ?_
                      refine x_putI 0 11 rfl f_0_41 rfl (jfin_no TX0 RX0 16 rfl rfl) (congrArg Prod.fst (F.1 98 (0, 16) rfl rfl)) rfl ?_
                      refine x_aloadn (x := 98) rfl rfl ?_
                      refine x_getR (b := 101) 0 4 rfl f_0_18 rfl (congrArg Prod.fst (F.1 98 (0, 16) rfl rfl)) (F.2.1 12548 101 rfl rfl) ?_
                      refine x_aloadn (x := 98) rfl rfl ?_
                      refine y_getI (v := 0) 0 10 rfl f_0_37 rfl (congrArg Prod.fst (F.1 98 (0, 16) rfl rfl)) rfl ?_
                      refine x_aloadn (x := 98) rfl rfl ?_
                      refine y_getI (v := a4) 0 11 rfl f_0_41 rfl (congrArg Prod.fst (F.1 98 (0, 16) rfl rfl)) rfl ?_
                      refine x_aloadn (x := 98) rfl rfl ?_
                      refine x_getR (b := 32) 0 0 rfl f_0_57 rfl (congrArg Prod.fst (F.1 98 (0, 16) rfl rfl)) (F.2.1 12544 32 rfl rfl) ?_
                      refine y_getI (v := 1) 1 19 rfl f_0_81 rfl (congrArg Prod.fst (F.1 32 (1, 20) rfl rfl)) (F.2.2.1 4115 1 rfl rfl) ?_
                      refine x_inst (N := m_X11_isFresh) (As := [.ref 101, .int 0, .int a4, .int 1]) (st := []) (d' := 96) (mc := 0) (ms := 0) (host := "ParishChest") rfl t_X11_isFresh ⟨Or.inr q_0_84, s_X11_isFresh⟩ rfl (by decide) rfl rfl ⟨by decide, by decide⟩ (jC.of rfl k_X11_isFresh rfl ?_)
                      show jX m_X11_isFresh 96 0 0 0 [(0, .ref 101), (1, .int 0), (2, .int a4), (3, .int 1)] [] _ 0 0 _
                      refine x_aloadn (x := 101) rfl rfl ?_
                      refine y_alen (N := 3) (v := 3) rfl (F.1 101 (100, 3) rfl rfl) (by decide) (by decide) ?_
                      refine x_iconst (v := 3) rfl ki_3 ?_
                      refine x_icge (tgt := 8) rfl rfl (br_t (by decide) ?_)
                      refine x_aloadn (x := 101) rfl rfl ?_
                      refine x_iconst (v := 0) rfl ki_0 ?_
                      refine y_iald (v := 0) (N := 3) 0 rfl (F.1 101 (100, 3) rfl rfl) (jinb_of (by decide)) (by decide) (F.2.2.2.1 101 rfl rfl 0).1 ?_
                      refine x_iloadn (x := 0) rfl rfl ?_
                      refine x_icne (tgt := 33) rfl rfl (bn_f (by decide) ?_)
                      refine x_aloadn (x := 101) rfl rfl ?_
                      refine x_iconst (v := 1) rfl ki_1 ?_
                      refine y_iald (v := 0) (N := 3) 1 rfl (F.1 101 (100, 3) rfl rfl) (jinb_of (by decide)) (by decide) (F.2.2.2.1 101 rfl rfl 1).1 ?_
                      refine x_iloadn (x := a4) rfl rfl ?_
                      refine x_icne (tgt := 33) rfl rfl (ti_ne (show (0 : Int32).toInt = 0 by decide) (show (a4 : Int32).toInt = a4.toInt from rfl) (bn_t c9 ?_))
                      refine x_iconst (v := 0) rfl ki_0 ?_
                      refine x_istore (ls' := [(4, .int 0), (0, .ref 101), (1, .int 0), (2, .int a4), (3, .int 1)]) rfl rfl rfl ?_
                      refine x_aloadn (x := 101) rfl rfl ?_
                      refine x_iconst (v := 0) rfl ki_0 ?_
                      refine x_iloadn (x := 0) rfl rfl ?_
                      refine y_iast (N := 3) 0 rfl (F.1 101 (100, 3) rfl rfl) rfl (jinb_of (by decide)) (by decide) ?_
                      refine x_aloadn (x := 101) rfl rfl ?_
                      refine x_iconst (v := 1) rfl ki_1 ?_
                      refine x_iloadn (x := a4) rfl rfl ?_
                      refine y_iast (N := 3) 1 rfl (F.1 101 (100, 3) rfl rfl) rfl (jinb_of (by decide)) (by decide) ?_
                      refine x_aloadn (x := 101) rfl rfl ?_
                      refine x_iconst (v := 2) rfl ki_2 ?_
                      refine x_iloadn (x := 1) rfl rfl ?_
                      refine y_iast (N := 3) 2 rfl (F.1 101 (100, 3) rfl rfl) rfl (jinb_of (by decide)) (by decide) ?_
                      refine x_iload (x := 0) rfl rfl ?_
                      refine x_zret rfl rfl (by first | decide | exact jp_01 _) ?_
                      show jX m_X0_readLaws 97 0 0 32 [(0, .ref 98), (1, .int 0), (2, .int a4)] [.int 0] _ 0 0 _
                      refine x_ifeq (tgt := 36) rfl rfl (br_t (by decide) ?_)
                      refine x_bipush (v := 30) rfl kb_30 ?_
                      refine x_aloadn (x := 98) rfl rfl ?_
                      refine x_getR (b := 32) 0 0 rfl f_0_57 rfl (congrArg Prod.fst (F.1 98 (0, 16) rfl rfl)) (F.2.1 12544 32 rfl rfl) ?_
                      refine y_getI (v := 0) 1 18 rfl f_0_72 rfl (congrArg Prod.fst (F.1 32 (1, 20) rfl rfl)) (F.2.2.1 4114 0 rfl rfl) ?_
                      refine x_inst (N := m_J9_min_7cf53) (As := [.int 30, .int 0]) (st := []) (d' := 96) (mc := 0) (ms := 0) (host := "") rfl t_J9_min_7cf53 ⟨Or.inl q_0_88, s_J9_min_7cf53⟩ rfl (by decide) rfl rfl ⟨by decide, by decide⟩ (jC.of rfl k_J9_min_7cf53 rfl ?_)
                      show jX m_J9_min_7cf53 96 0 0 0 [(0, .int 30), (1, .int 0)] [] _ 0 0 _
                      refine x_iloadn (x := 30) rfl rfl ?_
                      refine x_iloadn (x := 0) rfl rfl ?_
                      refine x_icgt (tgt := 9) rfl rfl (br_t (by decide) ?_)
                      refine x_iloadn (x := 0) rfl rfl ?_
                      refine x_iret rfl rfl ?_
                      show jX m_X0_readLaws 97 0 0 48 [(0, .ref 98), (1, .int 0), (2, .int a4)] [.int 0] _ 0 0 _
                      refine x_istoren (ls' := [(3, .int 0), (0, .ref 98), (1, .int 0), (2, .int a4)]) rfl rfl rfl ?_
                      refine x_iconst (v := 0) rfl ki_0 ?_
                      refine x_istore (ls' := [(4, .int 0), (3, .int 0), (0, .ref 98), (1, .int 0), (2, .int a4)]) rfl rfl rfl ?_
                      refine x_iload (x := 0) rfl rfl ?_
                      refine x_iloadn (x := 0) rfl rfl ?_
                      refine x_icge (tgt := 80) rfl rfl (br_t (by decide) ?_)
                      refine x_iloadn (x := 0) rfl rfl ?_
                      refine x_iconst (v := 1) rfl ki_1 ?_
                      refine y_isub (v := (-1)) rfl (by decide) ?_
                      refine x_istore (ls' := [(4, .int (-1)), (3, .int 0), (0, .ref 98), (1, .int 0), (2, .int a4)]) rfl rfl rfl ?_
                      refine x_iload (x := (-1)) rfl rfl ?_
                      refine x_iflt (tgt := 167) rfl rfl (br_t (by decide) ?_)
                      refine x_vret rfl rfl ?_
                      show jX m_X0_turnTo 98 0 0 6 [(0, .ref 98), (1, .int 0), (2, .int a4)] [] _ 0 0 _
                      refine x_aloadn (x := 98) rfl rfl ?_
                      refine x_iloadn (x := 0) rfl rfl ?_
                      refine x_iloadn (x := a4) rfl rfl ?_
                      refine x_inv (N := m_X0_readHouses) (As := [.int 0, .int a4]) (b := 98) (st := []) (d' := 97) (mc := 0) (ms := 0) (host := "") 0 rfl t_X0_readHouses ⟨Or.inl q_0_69, i_X0_readHouses.1, i_X0_readHouses.2⟩ ⟨by decide, rfl⟩ (congrArg Prod.fst (F.1 98 (0, 16) rfl rfl)) rfl (by decide) rfl rfl ⟨by decide, by decide⟩ (jC.of rfl k_X0_readHouses rfl ?_)
                      show jX m_X0_readHouses 97 0 0 0 [(0, .ref 98), (1, .int 0), (2, .int a4)] [] _ 0 0 _
                      refine x_aloadn (x := 98) rfl rfl ?_
                      refine x_iloadn (x := 0) rfl rfl ?_
                      refine x_putI 0 10 rfl f_0_37 rfl (jfin_no TX0 RX0 16 rfl rfl) (congrArg Prod.fst (F.1 98 (0, 16) rfl rfl)) rfl ?_
                      refine x_aloadn (x := 98) rfl rfl ?_
                      refine x_iloadn (x := a4) rfl rfl ?_
                      refine x_putI 0 11 rfl f_0_41 rfl (jfin_no TX0 RX0 16 rfl rfl) (congrArg Prod.fst (F.1 98 (0, 16) rfl rfl)) rfl ?_
                      refine x_aloadn (x := 98) rfl rfl ?_
                      refine x_getR (b := 105) 0 8 rfl f_0_30 rfl (congrArg Prod.fst (F.1 98 (0, 16) rfl rfl)) (F.2.1 12552 105 rfl rfl) ?_
                      refine x_aloadn (x := 98) rfl rfl ?_
                      refine y_getI (v := 0) 0 10 rfl f_0_37 rfl (congrArg Prod.fst (F.1 98 (0, 16) rfl rfl)) rfl ?_
                      refine x_aloadn (x := 98) rfl rfl ?_
                      refine y_getI (v := a4) 0 11 rfl f_0_41 rfl (congrArg Prod.fst (F.1 98 (0, 16) rfl rfl)) rfl ?_
                      refine x_aloadn (x := 98) rfl rfl ?_
                      refine x_getR (b := 32) 0 0 rfl f_0_57 rfl (congrArg Prod.fst (F.1 98 (0, 16) rfl rfl)) (F.2.1 12544 32 rfl rfl) ?_
                      refine y_getI (v := 1) 1 19 rfl f_0_81 rfl (congrArg Prod.fst (F.1 32 (1, 20) rfl rfl)) (F.2.2.1 4115 1 rfl rfl) ?_
                      refine x_inst (N := m_X11_isFresh) (As := [.ref 105, .int 0, .int a4, .int 1]) (st := []) (d' := 96) (mc := 0) (ms := 0) (host := "ParishChest") rfl t_X11_isFresh ⟨Or.inr q_0_84, s_X11_isFresh⟩ rfl (by decide) rfl rfl ⟨by decide, by decide⟩ (jC.of rfl k_X11_isFresh rfl ?_)
                      show jX m_X11_isFresh 96 0 0 0 [(0, .ref 105), (1, .int 0), (2, .int a4), (3, .int 1)] [] _ 0 0 _
                      refine x_aloadn (x := 105) rfl rfl ?_
                      refine y_alen (N := 3) (v := 3) rfl (F.1 105 (100, 3) rfl rfl) (by decide) (by decide) ?_
                      refine x_iconst (v := 3) rfl ki_3 ?_
                      refine x_icge (tgt := 8) rfl rfl (br_t (by decide) ?_)
                      refine x_aloadn (x := 105) rfl rfl ?_
                      refine x_iconst (v := 0) rfl ki_0 ?_
                      refine y_iald (v := 0) (N := 3) 0 rfl (F.1 105 (100, 3) rfl rfl) (jinb_of (by decide)) (by decide) (F.2.2.2.1 105 rfl rfl 0).1 ?_
                      refine x_iloadn (x := 0) rfl rfl ?_
                      refine x_icne (tgt := 33) rfl rfl (bn_f (by decide) ?_)
                      refine x_aloadn (x := 105) rfl rfl ?_
                      refine x_iconst (v := 1) rfl ki_1 ?_
                      refine y_iald (v := 0) (N := 3) 1 rfl (F.1 105 (100, 3) rfl rfl) (jinb_of (by decide)) (by decide) (F.2.2.2.1 105 rfl rfl 1).1 ?_
                      refine x_iloadn (x := a4) rfl rfl ?_
                      refine x_icne (tgt := 33) rfl rfl (ti_ne (show (0 : Int32).toInt = 0 by decide) (show (a4 : Int32).toInt = a4.toInt from rfl) (bn_t c9 ?_))
                      refine x_iconst (v := 0) rfl ki_0 ?_
                      refine x_istore (ls' := [(4, .int 0), (0, .ref 105), (1, .int 0), (2, .int a4), (3, .int 1)]) rfl rfl rfl ?_
                      refine x_aloadn (x := 105) rfl rfl ?_
                      refine x_iconst (v := 0) rfl ki_0 ?_
                      refine x_iloadn (x := 0) rfl rfl ?_
                      refine y_iast (N := 3) 0 rfl (F.1 105 (100, 3) rfl rfl) rfl (jinb_of (by decide)) (by decide) ?_
                      refine x_aloadn (x := 105) rfl rfl ?_
                      refine x_iconst (v := 1) rfl ki_1 ?_
                      refine x_iloadn (x := a4) rfl rfl ?_
                      refine y_iast (N := 3) 1 rfl (F.1 105 (100, 3) rfl rfl) rfl (jinb_of (by decide)) (by decide) ?_
                      refine x_aloadn (x := 105) rfl rfl ?_
                      refine x_iconst (v := 2) rfl ki_2 ?_
                      refine x_iloadn (x := 1) rfl rfl ?_
                      refine y_iast (N := 3) 2 rfl (F.1 105 (100, 3) rfl rfl) rfl (jinb_of (by decide)) (by decide) ?_
                      refine x_iload (x := 0) rfl rfl ?_
                      refine x_zret rfl rfl (by first | decide | exact jp_01 _) ?_
                      show jX m_X0_readHouses 97 0 0 32 [(0, .ref 98), (1, .int 0), (2, .int a4)] [.int 0] _ 0 0 _
                      refine x_ifeq (tgt := 36) rfl rfl (br_t (by decide) ?_)
                      refine x_bipush (v := 40) rfl kb_40 ?_
                      refine x_aloadn (x := 98) rfl rfl ?_
                      refine x_getR (b := 32) 0 0 rfl f_0_57 rfl (congrArg Prod.fst (F.1 98 (0, 16) rfl rfl)) (F.2.1 12544 32 rfl rfl) ?_
                      refine x_getR (b := 49) 1 8 rfl f_0_120 rfl (congrArg Prod.fst (F.1 32 (1, 20) rfl rfl)) (F.2.1 4104 49 rfl rfl) ?_
                      refine y_getI (v := 0) 8 3 rfl f_0_124 rfl (congrArg Prod.fst (F.1 49 (8, 4) rfl rfl)) (F.2.2.1 6275 0 rfl rfl) ?_
                      refine x_inst (N := m_J9_min_7cf53) (As := [.int 40, .int 0]) (st := []) (d' := 96) (mc := 0) (ms := 0) (host := "") rfl t_J9_min_7cf53 ⟨Or.inl q_0_88, s_J9_min_7cf53⟩ rfl (by decide) rfl rfl ⟨by decide, by decide⟩ (jC.of rfl k_J9_min_7cf53 rfl ?_)
                      show jX m_J9_min_7cf53 96 0 0 0 [(0, .int 40), (1, .int 0)] [] _ 0 0 _
                      refine x_iloadn (x := 40) rfl rfl ?_
                      refine x_iloadn (x := 0) rfl rfl ?_
                      refine x_icgt (tgt := 9) rfl rfl (br_t (by decide) ?_)
                      refine x_iloadn (x := 0) rfl rfl ?_
                      refine x_iret rfl rfl ?_
                      show jX m_X0_readHouses 97 0 0 51 [(0, .ref 98), (1, .int 0), (2, .int a4)] [.int 0] _ 0 0 _
                      refine x_istoren (ls' := [(3, .int 0), (0, .ref 98), (1, .int 0), (2, .int a4)]) rfl rfl rfl ?_
                      refine x_aloadn (x := 98) rfl rfl ?_
                      refine x_aloadn (x := 98) rfl rfl ?_
                      refine x_getR (b := 32) 0 0 rfl f_0_57 rfl (congrArg Prod.fst (F.1 98 (0, 16) rfl rfl)) (F.2.1 12544 32 rfl rfl) ?_
                      refine x_getR (b := 47) 1 7 rfl f_0_129 rfl (congrArg Prod.fst (F.1 32 (1, 20) rfl rfl)) (F.2.1 4103 47 rfl rfl) ?_
                      refine x_iconst (v := 3) rfl ki_3 ?_
                      refine x_aloadn (x := 98) rfl rfl ?_
                      refine x_getR (b := 102) 0 5 rfl f_0_21 rfl (congrArg Prod.fst (F.1 98 (0, 16) rfl rfl)) (F.2.1 12549 102 rfl rfl) ?_
                      refine x_iconst (v := 0) rfl ki_0 ?_
                      refine x_inv (N := m_X0_readLatest) (As := [.ref 47, .int 3, .ref 102, .int 0]) (b := 98) (st := []) (d' := 96) (mc := 0) (ms := 0) (host := "") 0 rfl t_X0_readLatest ⟨Or.inl q_0_132, i_X0_readLatest.1, i_X0_readLatest.2⟩ ⟨by decide, rfl⟩ (congrArg Prod.fst (F.1 98 (0, 16) rfl rfl)) rfl (by decide) rfl rfl ⟨by decide, by decide⟩ (jC.of rfl k_X0_readLatest rfl ?_)
                      show jX m_X0_readLatest 96 0 0 0 [(0, .ref 98), (1, .ref 47), (2, .int 3), (3, .ref 102), (4, .int 0)] [] _ 0 0 _
                      refine x_iconst (v := 0) rfl ki_0 ?_
                      refine x_istore (ls' := [(5, .int 0), (0, .ref 98), (1, .ref 47), (2, .int 3), (3, .ref 102), (4, .int 0)]) rfl rfl rfl ?_
                      refine x_iload (x := 0) rfl rfl ?_
                      refine x_bipush (v := 40) rfl kb_40 ?_
                      refine x_icge (tgt := 52) rfl rfl (br_f (by decide) ?_)
                      refine x_iload (x := 0) rfl rfl ?_
                      refine x_aloadn (x := 98) rfl rfl ?_
                      refine x_getR (b := 32) 0 0 rfl f_0_57 rfl (congrArg Prod.fst (F.1 98 (0, 16) rfl rfl)) (F.2.1 12544 32 rfl rfl) ?_
                      refine x_getR (b := 49) 1 8 rfl f_0_120 rfl (congrArg Prod.fst (F.1 32 (1, 20) rfl rfl)) (F.2.1 4104 49 rfl rfl) ?_
                      refine y_getI (v := 0) 8 3 rfl f_0_124 rfl (congrArg Prod.fst (F.1 49 (8, 4) rfl rfl)) (F.2.2.1 6275 0 rfl rfl) ?_
                      refine x_icge (tgt := 52) rfl rfl (br_t (by decide) ?_)
                      refine x_iconst (v := 0) rfl ki_0 ?_
                      refine x_istore (ls' := [(5, .int 0), (0, .ref 98), (1, .ref 47), (2, .int 3), (3, .ref 102), (4, .int 0)]) rfl rfl rfl ?_
                      refine x_iload (x := 0) rfl rfl ?_
                      refine x_aloadn (x := 47) rfl rfl ?_
                      refine y_getI (v := 0) 8 3 rfl f_0_124 rfl (congrArg Prod.fst (F.1 47 (8, 4) rfl rfl)) (F.2.2.1 6019 0 rfl rfl) ?_
                      refine x_icge (tgt := 161) rfl rfl (br_t (by decide) ?_)
                      refine x_vret rfl rfl ?_
                      show jX m_X0_readHouses 97 0 0 69 [(3, .int 0), (0, .ref 98), (1, .int 0), (2, .int a4)] [] _ 0 0 _
                      refine x_aloadn (x := 98) rfl rfl ?_
                      refine x_aloadn (x := 98) rfl rfl ?_
                      refine x_getR (b := 32) 0 0 rfl f_0_57 rfl (congrArg Prod.fst (F.1 98 (0, 16) rfl rfl)) (F.2.1 12544 32 rfl rfl) ?_
                      refine x_getR (b := 51) 1 9 rfl f_0_136 rfl (congrArg Prod.fst (F.1 32 (1, 20) rfl rfl)) (F.2.1 4105 51 rfl rfl) ?_
                      refine x_iconst (v := 3) rfl ki_3 ?_
                      refine x_aloadn (x := 98) rfl rfl ?_
                      refine x_getR (b := 103) 0 6 rfl f_0_24 rfl (congrArg Prod.fst (F.1 98 (0, 16) rfl rfl)) (F.2.1 12550 103 rfl rfl) ?_
                      refine x_iconst (v := (-1)) rfl ki_m1 ?_
                      refine x_inv (N := m_X0_readLatest) (As := [.ref 51, .int 3, .ref 103, .int (-1)]) (b := 98) (st := []) (d' := 96) (mc := 0) (ms := 0) (host := "") 0 rfl t_X0_readLatest ⟨Or.inl q_0_132, i_X0_readLatest.1, i_X0_readLatest.2⟩ ⟨by decide, rfl⟩ (congrArg Prod.fst (F.1 98 (0, 16) rfl rfl)) rfl (by decide) rfl rfl ⟨by decide, by decide⟩ (jC.of rfl k_X0_readLatest rfl ?_)
                      show jX m_X0_readLatest 96 0 0 0 [(0, .ref 98), (1, .ref 51), (2, .int 3), (3, .ref 103), (4, .int (-1))] [] _ 0 0 _
                      refine x_iconst (v := 0) rfl ki_0 ?_
                      refine x_istore (ls' := [(5, .int 0), (0, .ref 98), (1, .ref 51), (2, .int 3), (3, .ref 103), (4, .int (-1))]) rfl rfl rfl ?_
                      refine x_iload (x := 0) rfl rfl ?_
                      refine x_bipush (v := 40) rfl kb_40 ?_
                      refine x_icge (tgt := 52) rfl rfl (br_f (by decide) ?_)
                      refine x_iload (x := 0) rfl rfl ?_
                      refine x_aloadn (x := 98) rfl rfl ?_
                      refine x_getR (b := 32) 0 0 rfl f_0_57 rfl (congrArg Prod.fst (F.1 98 (0, 16) rfl rfl)) (F.2.1 12544 32 rfl rfl) ?_
                      refine x_getR (b := 49) 1 8 rfl f_0_120 rfl (congrArg Prod.fst (F.1 32 (1, 20) rfl rfl)) (F.2.1 4104 49 rfl rfl) ?_
                      refine y_getI (v := 0) 8 3 rfl f_0_124 rfl (congrArg Prod.fst (F.1 49 (8, 4) rfl rfl)) (F.2.2.1 6275 0 rfl rfl) ?_
                      refine x_icge (tgt := 52) rfl rfl (br_t (by decide) ?_)
                      refine x_iconst (v := 0) rfl ki_0 ?_
                      refine x_istore (ls' := [(5, .int 0), (0, .ref 98), (1, .ref 51), (2, .int 3), (3, .ref 103), (4, .int (-1))]) rfl rfl rfl ?_
                      refine x_iload (x := 0) rfl rfl ?_
                      refine x_aloadn (x := 51) rfl rfl ?_
                      refine y_getI (v := 0) 8 3 rfl f_0_124 rfl (congrArg Prod.fst (F.1 51 (8, 4) rfl rfl)) (F.2.2.1 6531 0 rfl rfl) ?_
                      refine x_icge (tgt := 161) rfl rfl (br_t (by decide) ?_)
                      refine x_vret rfl rfl ?_
                      show jX m_X0_readHouses 97 0 0 86 [(3, .int 0), (0, .ref 98), (1, .int 0), (2, .int a4)] [] _ 0 0 _
                      refine x_iconst (v := 0) rfl ki_0 ?_
                      refine x_istore (ls' := [(4, .int 0), (3, .int 0), (0, .ref 98), (1, .int 0), (2, .int a4)]) rfl rfl rfl ?_
                      refine x_iload (x := 0) rfl rfl ?_
                      refine x_iloadn (x := 0) rfl rfl ?_
                      refine x_icge (tgt := 172) rfl rfl (br_t (by decide) ?_)
                      refine x_vret rfl rfl ?_
                      show jX m_X0_turnTo 98 0 0 12 [(0, .ref 98), (1, .int 0), (2, .int a4)] [] _ 0 0 _
                      refine x_vret rfl rfl ?_
                      show jX m_X4_partOut 99 0 0 71 [(4, .int 0), (3, .int 0), (0, .ref 107), (1, .int a1), (2, .int a4)] [] _ 0 0 _
                      refine x_lconst (v := 0) rfl kl_0 ?_
                      refine x_lstore (ls' := [(5, .long 0), (4, .int 0), (3, .int 0), (0, .ref 107), (1, .int a1), (2, .int a4)]) rfl rfl rfl ?_
                      refine x_iconst (v := 0) rfl ki_0 ?_
                      refine x_istore (ls' := [(7, .int 0), (5, .long 0), (4, .int 0), (3, .int 0), (0, .ref 107), (1, .int a1), (2, .int a4)]) rfl rfl rfl ?_
                      refine x_iload (x := 0) rfl rfl ?_
                      refine x_aloadn (x := 107) rfl rfl ?_
                      refine x_inv (N := m_X4_houses) (As := []) (b := 107) (st := [.int 0]) (d' := 98) (mc := 0) (ms := 0) (host := "") 4 rfl t_X4_houses ⟨Or.inl q_4_107, i_X4_houses.1, i_X4_houses.2⟩ ⟨by decide, rfl⟩ (congrArg Prod.fst (F.1 107 (4, 18) rfl rfl)) rfl (by decide) rfl rfl ⟨by decide, by decide⟩ (jC.of rfl k_X4_houses rfl ?_)
                      show jX m_X4_houses 98 0 0 0 [(0, .ref 107)] [] _ 0 0 _
                      refine x_bipush (v := 40) rfl kb_40 ?_
                      refine x_aloadn (x := 107) rfl rfl ?_
                      refine x_getR (b := 32) 4 0 rfl f_4_59 rfl (congrArg Prod.fst (F.1 107 (4, 18) rfl rfl)) (F.2.1 13696 32 rfl rfl) ?_
                      refine x_getR (b := 49) 1 8 rfl f_4_71 rfl (congrArg Prod.fst (F.1 32 (1, 20) rfl rfl)) (F.2.1 4104 49 rfl rfl) ?_
                      refine y_getI (v := 0) 8 3 rfl f_4_77 rfl (congrArg Prod.fst (F.1 49 (8, 4) rfl rfl)) (F.2.2.1 6275 0 rfl rfl) ?_
                      refine x_inst (N := m_J9_min_7cf53) (As := [.int 40, .int 0]) (st := []) (d' := 97) (mc := 0) (ms := 0) (host := "") rfl t_J9_min_7cf53 ⟨Or.inl q_4_82, s_J9_min_7cf53⟩ rfl (by decide) rfl rfl ⟨by decide, by decide⟩ (jC.of rfl k_J9_min_7cf53 rfl ?_)
                      show jX m_J9_min_7cf53 97 0 0 0 [(0, .int 40), (1, .int 0)] [] _ 0 0 _
                      refine x_iloadn (x := 40) rfl rfl ?_
                      refine x_iloadn (x := 0) rfl rfl ?_
                      refine x_icgt (tgt := 9) rfl rfl (br_t (by decide) ?_)
                      refine x_iloadn (x := 0) rfl rfl ?_
                      refine x_iret rfl rfl ?_
                      show jX m_X4_houses 98 0 0 15 [(0, .ref 107)] [.int 0] _ 0 0 _
                      refine x_iret rfl rfl ?_
                      show jX m_X4_partOut 99 0 0 83 [(7, .int 0), (5, .long 0), (4, .int 0), (3, .int 0), (0, .ref 107), (1, .int a1), (2, .int a4)] [.int 0, .int 0] _ 0 0 _
                      refine x_icge (tgt := 187) rfl rfl (br_t (by decide) ?_)
                      refine x_aloadn (x := 107) rfl rfl ?_
                      refine x_iload (x := 0) rfl rfl ?_
                      refine x_lload (x := 0) rfl rfl ?_
                      refine x_inv (N := m_X4_share) (As := [.int 0, .long 0]) (b := 107) (st := []) (d' := 98) (mc := 0) (ms := 0) (host := "") 4 rfl t_X4_share ⟨Or.inl q_4_123, i_X4_share.1, i_X4_share.2⟩ ⟨by decide, rfl⟩ (congrArg Prod.fst (F.1 107 (4, 18) rfl rfl)) rfl (by decide) rfl rfl ⟨by decide, by decide⟩ (jC.of rfl k_X4_share rfl ?_)
                      show jX m_X4_share 98 0 0 0 [(0, .ref 107), (1, .int 0), (2, .long 0)] [] _ 0 0 _
                      refine x_lloadn (x := 0) rfl rfl ?_
                      refine x_lconst (v := 0) rfl kl_0 ?_
                      refine y_lcmp (v := 0) rfl (by decide) ?_
                      refine x_ifne (tgt := 10) rfl rfl (bn_f (by decide) ?_)
                      refine x_lconst (v := 0) rfl kl_0 ?_
                      refine x_goto (tgt := 12) rfl rfl ?_
                      refine x_lstore (ls' := [(4, .long 0), (0, .ref 107), (1, .int 0), (2, .long 0)]) rfl rfl rfl ?_
                      refine x_iconst (v := 0) rfl ki_0 ?_
                      refine x_istore (ls' := [(6, .int 0), (4, .long 0), (0, .ref 107), (1, .int 0), (2, .long 0)]) rfl rfl rfl ?_
                      refine x_iload (x := 0) rfl rfl ?_
                      refine x_aloadn (x := 107) rfl rfl ?_
                      refine x_inv (N := m_X4_houses) (As := []) (b := 107) (st := [.int 0]) (d' := 97) (mc := 0) (ms := 0) (host := "") 4 rfl t_X4_houses ⟨Or.inl q_4_107, i_X4_houses.1, i_X4_houses.2⟩ ⟨by decide, rfl⟩ (congrArg Prod.fst (F.1 107 (4, 18) rfl rfl)) rfl (by decide) rfl rfl ⟨by decide, by decide⟩ (jC.of rfl k_X4_houses rfl ?_)
                      show jX m_X4_houses 97 0 0 0 [(0, .ref 107)] [] _ 0 0 _
                      refine x_bipush (v := 40) rfl kb_40 ?_
                      refine x_aloadn (x := 107) rfl rfl ?_
                      refine x_getR (b := 32) 4 0 rfl f_4_59 rfl (congrArg Prod.fst (F.1 107 (4, 18) rfl rfl)) (F.2.1 13696 32 rfl rfl) ?_
                      refine x_getR (b := 49) 1 8 rfl f_4_71 rfl (congrArg Prod.fst (F.1 32 (1, 20) rfl rfl)) (F.2.1 4104 49 rfl rfl) ?_
                      refine y_getI (v := 0) 8 3 rfl f_4_77 rfl (congrArg Prod.fst (F.1 49 (8, 4) rfl rfl)) (F.2.2.1 6275 0 rfl rfl) ?_
                      refine x_inst (N := m_J9_min_7cf53) (As := [.int 40, .int 0]) (st := []) (d' := 96) (mc := 0) (ms := 0) (host := "") rfl t_J9_min_7cf53 ⟨Or.inl q_4_82, s_J9_min_7cf53⟩ rfl (by decide) rfl rfl ⟨by decide, by decide⟩ (jC.of rfl k_J9_min_7cf53 rfl ?_)
                      show jX m_J9_min_7cf53 96 0 0 0 [(0, .int 40), (1, .int 0)] [] _ 0 0 _
                      refine x_iloadn (x := 40) rfl rfl ?_
                      refine x_iloadn (x := 0) rfl rfl ?_
                      refine x_icgt (tgt := 9) rfl rfl (br_t (by decide) ?_)
                      refine x_iloadn (x := 0) rfl rfl ?_
                      refine x_iret rfl rfl ?_
                      show jX m_X4_houses 97 0 0 15 [(0, .ref 107)] [.int 0] _ 0 0 _
                      refine x_iret rfl rfl ?_
                      show jX m_X4_share 98 0 0 23 [(6, .int 0), (4, .long 0), (0, .ref 107), (1, .int 0), (2, .long 0)] [.int 0, .int 0] _ 0 0 _
                      refine x_icge (tgt := 113) rfl rfl (br_t (by decide) ?_)
                      refine x_iconst (v := 0) rfl ki_0 ?_
                      refine x_istore (ls' := [(6, .int 0), (4, .long 0), (0, .ref 107), (1, .int 0), (2, .long 0)]) rfl rfl rfl ?_
                      refine x_iload (x := 0) rfl rfl ?_
                      refine x_bipush (v := 40) rfl kb_40 ?_
                      refine x_icge (tgt := 175) rfl rfl (br_f (by decide) ?_)
                      refine x_lload (x := 0) rfl rfl ?_
                      refine x_lconst (v := 0) rfl kl_0 ?_
                      refine y_lcmp (v := 0) rfl (by decide) ?_
                      refine x_ifle (tgt := 175) rfl rfl (br_t (by decide) ?_)
                      refine x_vret rfl rfl ?_
                      show jX m_X4_partOut 99 0 0 195 [(7, .int 0), (5, .long 0), (4, .int 0), (3, .int 0), (0, .ref 107), (1, .int a1), (2, .int a4)] [] _ 0 0 _
                      refine x_iconst (v := 0) rfl ki_0 ?_
                      refine x_istore (ls' := [(7, .int 0), (5, .long 0), (4, .int 0), (3, .int 0), (0, .ref 107), (1, .int a1), (2, .int a4)]) rfl rfl rfl ?_
                      refine x_iload (x := 0) rfl rfl ?_
                      refine x_aloadn (x := 107) rfl rfl ?_
                      refine x_inv (N := m_X4_houses) (As := []) (b := 107) (st := [.int 0]) (d' := 98) (mc := 0) (ms := 0) (host := "") 4 rfl t_X4_houses ⟨Or.inl q_4_107, i_X4_houses.1, i_X4_houses.2⟩ ⟨by decide, rfl⟩ (congrArg Prod.fst (F.1 107 (4, 18) rfl rfl)) rfl (by decide) rfl rfl ⟨by decide, by decide⟩ (jC.of rfl k_X4_houses rfl ?_)
                      show jX m_X4_houses 98 0 0 0 [(0, .ref 107)] [] _ 0 0 _
                      refine x_bipush (v := 40) rfl kb_40 ?_
                      refine x_aloadn (x := 107) rfl rfl ?_
                      refine x_getR (b := 32) 4 0 rfl f_4_59 rfl (congrArg Prod.fst (F.1 107 (4, 18) rfl rfl)) (F.2.1 13696 32 rfl rfl) ?_
                      refine x_getR (b := 49) 1 8 rfl f_4_71 rfl (congrArg Prod.fst (F.1 32 (1, 20) rfl rfl)) (F.2.1 4104 49 rfl rfl) ?_
                      refine y_getI (v := 0) 8 3 rfl f_4_77 rfl (congrArg Prod.fst (F.1 49 (8, 4) rfl rfl)) (F.2.2.1 6275 0 rfl rfl) ?_
                      refine x_inst (N := m_J9_min_7cf53) (As := [.int 40, .int 0]) (st := []) (d' := 97) (mc := 0) (ms := 0) (host := "") rfl t_J9_min_7cf53 ⟨Or.inl q_4_82, s_J9_min_7cf53⟩ rfl (by decide) rfl rfl ⟨by decide, by decide⟩ (jC.of rfl k_J9_min_7cf53 rfl ?_)
                      show jX m_J9_min_7cf53 97 0 0 0 [(0, .int 40), (1, .int 0)] [] _ 0 0 _
                      refine x_iloadn (x := 40) rfl rfl ?_
                      refine x_iloadn (x := 0) rfl rfl ?_
                      refine x_icgt (tgt := 9) rfl rfl (br_t (by decide) ?_)
                      refine x_iloadn (x := 0) rfl rfl ?_
                      refine x_iret rfl rfl ?_
                      show jX m_X4_houses 98 0 0 15 [(0, .ref 107)] [.int 0] _ 0 0 _
                      refine x_iret rfl rfl ?_
                      show jX m_X4_partOut 99 0 0 204 [(7, .int 0), (5, .long 0), (4, .int 0), (3, .int 0), (0, .ref 107), (1, .int a1), (2, .int a4)] [.int 0, .int 0] _ 0 0 _
                      refine x_icge (tgt := 275) rfl rfl (br_t (by decide) ?_)
                      refine x_vret rfl rfl ?_
                      show jX m_X11_arrear 100 0 0 62 [(0, .ref 31), (1, .int a1), (2, .int a2), (3, .int a3), (4, .int a4)] [] _ 0 0 _
                      refine x_aloadn (x := 31) rfl rfl ?_
                      refine x_getR (b := 107) 11 8 rfl f_11_75 rfl (congrArg Prod.fst (F.1 31 (11, 13) rfl rfl)) (F.2.1 3976 107 rfl rfl) ?_
                      refine x_getR (b := 108) 4 3 rfl f_11_449 rfl (congrArg Prod.fst (F.1 107 (4, 18) rfl rfl)) (F.2.1 13699 108 rfl rfl) ?_
                      refine x_iloadn (x := a2) rfl rfl ?_
                      refine y_iald (v := 0) (N := 40) a2.toNatClampNeg rfl (F.1 108 (100, 40) rfl rfl) (vpi (by omega)) rfl (F.2.2.2.1 108 rfl rfl _).1 ?_
                      refine x_istore (ls' := [(5, .int 0), (0, .ref 31), (1, .int a1), (2, .int a2), (3, .int a3), (4, .int a4)]) rfl rfl rfl ?_
                      refine x_iconst (v := 0) rfl ki_0 ?_
                      refine x_istore (ls' := [(6, .int 0), (5, .int 0), (0, .ref 31), (1, .int a1), (2, .int a2), (3, .int a3), (4, .int a4)]) rfl rfl rfl ?_
                      refine x_iload (x := 0) rfl rfl ?_
                      refine x_aloadn (x := 31) rfl rfl ?_
                      refine x_getR (b := 32) 11 0 rfl f_11_10 rfl (congrArg Prod.fst (F.1 31 (11, 13) rfl rfl)) (F.2.1 3968 32 rfl rfl) ?_
                      refine x_getR (b := 55) 1 11 rfl f_11_452 rfl (congrArg Prod.fst (F.1 32 (1, 20) rfl rfl)) (F.2.1 4107 55 rfl rfl) ?_
                      refine y_getI (v := 0) 8 3 rfl f_11_142 rfl (congrArg Prod.fst (F.1 55 (8, 4) rfl rfl)) (F.2.2.1 7043 0 rfl rfl) ?_
                      refine x_icge (tgt := 183) rfl rfl (br_t (by decide) ?_)
                      refine x_iload (x := 0) rfl rfl ?_
                      refine x_iret rfl rfl ?_
                      exact jqe (show sp_arrear a1 a2 a3 a4 = 0 by unfold sp_arrear; (repeat' split) <;> first | rfl | (exfalso; omega)) (hQ _ (by repeat (first | exact FM | refine jFb_si rfl ?_ | refine jFb_sl rfl ?_ | refine jFb_ci rfl ?_ | refine jFb_cl rfl ?_ | refine jFb_sr rfl ?_)) (by repeat (first | exact O | refine jOl_si rfl ?_ | refine jOl_sl rfl ?_ | refine jOl_ci rfl ?_ | refine jOl_cl rfl ?_ | refine jOl_sr rfl ?_)))
                    ·
                      refine x_aloadn (x := 111) rfl rfl ?_
                      refine x_iconst (v := 1) rfl ki_1 ?_
                      refine y_iald (v := 0) (N := 3) 1 rfl (F.1 111 (100, 3) rfl rfl) (jinb_of (by decide)) (by decide) (F.2.2.2.1 111 rfl rfl 1).1 ?_
                      refine x_iloadn (x := a4) rfl rfl ?_
                      refine x_icne (tgt := 33) rfl rfl (ti_ne (show (0 : Int32).toInt = 0 by decide) (show (a4 : Int32).toInt = a4.toInt from rfl) (bn_t c9 ?_))
                      refine x_iconst (v := 0) rfl ki_0 ?_
                      refine x_istore (ls' := [(4, .int 0), (0, .ref 111), (1, .int a1), (2, .int a4), (3, .int 1)]) rfl rfl rfl ?_
                      refine x_aloadn (x := 111) rfl rfl ?_
                      refine x_iconst (v := 0) rfl ki_0 ?_
                      refine x_iloadn (x := a1) rfl rfl ?_
                      refine y_iast (N := 3) 0 rfl (F.1 111 (100, 3) rfl rfl) rfl (jinb_of (by decide)) (by decide) ?_
                      refine x_aloadn (x := 111) rfl rfl ?_
                      refine x_iconst (v := 1) rfl ki_1 ?_
                      refine x_iloadn (x := a4) rfl rfl ?_
                      refine y_iast (N := 3) 1 rfl (F.1 111 (100, 3) rfl rfl) rfl (jinb_of (by decide)) (by decide) ?_
                      refine x_aloadn (x := 111) rfl rfl ?_
                      refine x_iconst (v := 2) rfl ki_2 ?_
                      refine x_iloadn (x := 1) rfl rfl ?_
                      refine y_iast (N := 3) 2 rfl (F.1 111 (100, 3) rfl rfl) rfl (jinb_of (by decide)) (by decide) ?_
                      refine x_iload (x := 0) rfl rfl ?_
                      refine x_zret rfl rfl (by first | decide | exact jp_01 _) ?_
                      show jX m_X4_partOut 99 0 0 16 [(0, .ref 107), (1, .int a1), (2, .int a4)] [.int 0] _ 0 0 _
                      refine x_ifeq (tgt := 20) rfl rfl (br_t (by decide) ?_)
                      refine x_aloadn (x := 107) rfl rfl ?_
                      refine x_getR (b := 32) 4 0 rfl f_4_59 rfl (congrArg Prod.fst (F.1 107 (4, 18) rfl rfl)) (F.2.1 13696 32 rfl rfl) ?_
                      refine x_getR (b := 53) 1 10 rfl f_4_95 rfl (congrArg Prod.fst (F.1 32 (1, 20) rfl rfl)) (F.2.1 4106 53 rfl rfl) ?_
                      refine x_iloadn (x := a1) rfl rfl ?_
                      refine x_iconst (v := 2) rfl ki_2 ?_
                      refine x_inv (N := m_X8_at) (As := [.int a1, .int 2]) (b := 53) (st := []) (d' := 98) (mc := 0) (ms := 0) (host := "") 8 rfl t_X8_at ⟨Or.inl q_4_98, i_X8_at.1, i_X8_at.2⟩ ⟨by decide, rfl⟩ (congrArg Prod.fst (F.1 53 (8, 4) rfl rfl)) rfl (by decide) rfl rfl ⟨by decide, by decide⟩ (jC.of rfl k_X8_at rfl ?_)
                      show jX m_X8_at 98 0 0 0 [(0, .ref 53), (1, .int a1), (2, .int 2)] [] _ 0 0 _
                      refine x_iloadn (x := a1) rfl rfl ?_
                      refine x_iflt (tgt := 24) rfl rfl (ti_lt (show (a1 : Int32).toInt = a1.toInt from rfl) (show (0 : Int32).toInt = 0 by decide) (br_f c3 ?_))
                      refine x_iloadn (x := a1) rfl rfl ?_
                      refine x_aloadn (x := 53) rfl rfl ?_
                      refine y_getI (v := 0) 8 3 rfl f_8_7 rfl (congrArg Prod.fst (F.1 53 (8, 4) rfl rfl)) (F.2.2.1 6787 0 rfl rfl) ?_
                      refine x_icge (tgt := 24) rfl rfl (ti_ge (show (a1 : Int32).toInt = a1.toInt from rfl) (show (0 : Int32).toInt = 0 by decide) (br_f c4 ?_))
                      refine x_iloadn (x := 2) rfl rfl ?_
                      refine x_iflt (tgt := 24) rfl rfl (br_f (by decide) ?_)
                      refine x_iloadn (x := 2) rfl rfl ?_
                      refine x_aloadn (x := 53) rfl rfl ?_
                      refine y_getI (v := 4) 8 0 rfl f_8_19 rfl (congrArg Prod.fst (F.1 53 (8, 4) rfl rfl)) (F.2.2.1 6784 4 rfl rfl) ?_
                      refine x_iclt (tgt := 26) rfl rfl (br_t (by decide) ?_)
                      refine x_aloadn (x := 53) rfl rfl ?_
                      refine x_getR (b := 54) 8 2 rfl f_8_25 rfl (congrArg Prod.fst (F.1 53 (8, 4) rfl rfl)) (F.2.1 6786 54 rfl rfl) ?_
                      refine x_iloadn (x := a1) rfl rfl ?_
                      refine x_aloadn (x := 53) rfl rfl ?_
                      refine y_getI (v := 4) 8 0 rfl f_8_19 rfl (congrArg Prod.fst (F.1 53 (8, 4) rfl rfl)) (F.2.2.1 6784 4 rfl rfl) ?_
                      refine x_imul rfl ?_
                      refine x_iloadn (x := 2) rfl rfl ?_
                      refine x_iadd rfl ?_
                      refine y_iald (v := 0) (N := 160) ((a1 * 4) + 2).toNatClampNeg rfl (F.1 54 (100, 160) rfl rfl) (vpi (by omega)) rfl (F.2.2.2.1 54 rfl rfl _).1 ?_
                      refine x_iret rfl rfl ?_
                      show jX m_X4_partOut 99 0 0 32 [(0, .ref 107), (1, .int a1), (2, .int a4)] [.int 0] _ 0 0 _
                      refine x_istoren (ls' := [(3, .int 0), (0, .ref 107), (1, .int a1), (2, .int a4)]) rfl rfl rfl ?_
                      refine x_aloadn (x := 107) rfl rfl ?_
                      refine x_getR (b := 32) 4 0 rfl f_4_59 rfl (congrArg Prod.fst (F.1 107 (4, 18) rfl rfl)) (F.2.1 13696 32 rfl rfl) ?_
                      refine x_getR (b := 53) 1 10 rfl f_4_95 rfl (congrArg Prod.fst (F.1 32 (1, 20) rfl rfl)) (F.2.1 4106 53 rfl rfl) ?_
                      refine x_iloadn (x := a1) rfl rfl ?_
                      refine x_iconst (v := 3) rfl ki_3 ?_
                      refine x_inv (N := m_X8_at) (As := [.int a1, .int 3]) (b := 53) (st := []) (d' := 98) (mc := 0) (ms := 0) (host := "") 8 rfl t_X8_at ⟨Or.inl q_4_98, i_X8_at.1, i_X8_at.2⟩ ⟨by decide, rfl⟩ (congrArg Prod.fst (F.1 53 (8, 4) rfl rfl)) rfl (by decide) rfl rfl ⟨by decide, by decide⟩ (jC.of rfl k_X8_at rfl ?_)
                      show jX m_X8_at 98 0 0 0 [(0, .ref 53), (1, .int a1), (2, .int 3)] [] _ 0 0 _
                      refine x_iloadn (x := a1) rfl rfl ?_
                      refine x_iflt (tgt := 24) rfl rfl (ti_lt (show (a1 : Int32).toInt = a1.toInt from rfl) (show (0 : Int32).toInt = 0 by decide) (br_f c3 ?_))
                      refine x_iloadn (x := a1) rfl rfl ?_
                      refine x_aloadn (x := 53) rfl rfl ?_
                      refine y_getI (v := 0) 8 3 rfl f_8_7 rfl (congrArg Prod.fst (F.1 53 (8, 4) rfl rfl)) (F.2.2.1 6787 0 rfl rfl) ?_
                      refine x_icge (tgt := 24) rfl rfl (ti_ge (show (a1 : Int32).toInt = a1.toInt from rfl) (show (0 : Int32).toInt = 0 by decide) (br_f c4 ?_))
                      refine x_iloadn (x := 3) rfl rfl ?_
                      refine x_iflt (tgt := 24) rfl rfl (br_f (by decide) ?_)
                      refine x_iloadn (x := 3) rfl rfl ?_
                      refine x_aloadn (x := 53) rfl rfl ?_
                      refine y_getI (v := 4) 8 0 rfl f_8_19 rfl (congrArg Prod.fst (F.1 53 (8, 4) rfl rfl)) (F.2.2.1 6784 4 rfl rfl) ?_
                      refine x_iclt (tgt := 26) rfl rfl (br_t (by decide) ?_)
                      refine x_aloadn (x := 53) rfl rfl ?_
                      refine x_getR (b := 54) 8 2 rfl f_8_25 rfl (congrArg Prod.fst (F.1 53 (8, 4) rfl rfl)) (F.2.1 6786 54 rfl rfl) ?_
                      refine x_iloadn (x := a1) rfl rfl ?_
                      refine x_aloadn (x := 53) rfl rfl ?_
                      refine y_getI (v := 4) 8 0 rfl f_8_19 rfl (congrArg Prod.fst (F.1 53 (8, 4) rfl rfl)) (F.2.2.1 6784 4 rfl rfl) ?_
                      refine x_imul rfl ?_
                      refine x_iloadn (x := 3) rfl rfl ?_
                      refine x_iadd rfl ?_
                      refine y_iald (v := 0) (N := 160) ((a1 * 4) + 3).toNatClampNeg rfl (F.1 54 (100, 160) rfl rfl) (vpi (by omega)) rfl (F.2.2.2.1 54 rfl rfl _).1 ?_
                      refine x_iret rfl rfl ?_
                      show jX m_X4_partOut 99 0 0 45 [(3, .int 0), (0, .ref 107), (1, .int a1), (2, .int a4)] [.int 0] _ 0 0 _
                      refine x_istore (ls' := [(4, .int 0), (3, .int 0), (0, .ref 107), (1, .int a1), (2, .int a4)]) rfl rfl rfl ?_
                      refine x_aloadn (x := 107) rfl rfl ?_
                      refine x_getR (b := 98) 4 2 rfl f_4_67 rfl (congrArg Prod.fst (F.1 107 (4, 18) rfl rfl)) (F.2.1 13698 98 rfl rfl) ?_
                      refine x_aloadn (x := 107) rfl rfl ?_
                      refine x_getR (b := 32) 4 0 rfl f_4_59 rfl (congrArg Prod.fst (F.1 107 (4, 18) rfl rfl)) (F.2.1 13696 32 rfl rfl) ?_
                      refine x_getR (b := 53) 1 10 rfl f_4_95 rfl (congrArg Prod.fst (F.1 32 (1, 20) rfl rfl)) (F.2.1 4106 53 rfl rfl) ?_
                      refine x_iloadn (x := a1) rfl rfl ?_
                      refine x_iconst (v := 1) rfl ki_1 ?_
                      refine x_inv (N := m_X8_at) (As := [.int a1, .int 1]) (b := 53) (st := [.ref 98]) (d' := 98) (mc := 0) (ms := 0) (host := "") 8 rfl t_X8_at ⟨Or.inl q_4_98, i_X8_at.1, i_X8_at.2⟩ ⟨by decide, rfl⟩ (congrArg Prod.fst (F.1 53 (8, 4) rfl rfl)) rfl (by decide) rfl rfl ⟨by decide, by decide⟩ (jC.of rfl k_X8_at rfl ?_)
                      show jX m_X8_at 98 0 0 0 [(0, .ref 53), (1, .int a1), (2, .int 1)] [] _ 0 0 _
                      refine x_iloadn (x := a1) rfl rfl ?_
                      refine x_iflt (tgt := 24) rfl rfl (ti_lt (show (a1 : Int32).toInt = a1.toInt from rfl) (show (0 : Int32).toInt = 0 by decide) (br_f c3 ?_))
                      refine x_iloadn (x := a1) rfl rfl ?_
                      refine x_aloadn (x := 53) rfl rfl ?_
                      refine y_getI (v := 0) 8 3 rfl f_8_7 rfl (congrArg Prod.fst (F.1 53 (8, 4) rfl rfl)) (F.2.2.1 6787 0 rfl rfl) ?_
                      refine x_icge (tgt := 24) rfl rfl (ti_ge (show (a1 : Int32).toInt = a1.toInt from rfl) (show (0 : Int32).toInt = 0 by decide) (br_f c4 ?_))
                      refine x_iloadn (x := 1) rfl rfl ?_
                      refine x_iflt (tgt := 24) rfl rfl (br_f (by decide) ?_)
                      refine x_iloadn (x := 1) rfl rfl ?_
                      refine x_aloadn (x := 53) rfl rfl ?_
                      refine y_getI (v := 4) 8 0 rfl f_8_19 rfl (congrArg Prod.fst (F.1 53 (8, 4) rfl rfl)) (F.2.2.1 6784 4 rfl rfl) ?_
                      refine x_iclt (tgt := 26) rfl rfl (br_t (by decide) ?_)
                      refine x_aloadn (x := 53) rfl rfl ?_
                      refine x_getR (b := 54) 8 2 rfl f_8_25 rfl (congrArg Prod.fst (F.1 53 (8, 4) rfl rfl)) (F.2.1 6786 54 rfl rfl) ?_
                      refine x_iloadn (x := a1) rfl rfl ?_
                      refine x_aloadn (x := 53) rfl rfl ?_
                      refine y_getI (v := 4) 8 0 rfl f_8_19 rfl (congrArg Prod.fst (F.1 53 (8, 4) rfl rfl)) (F.2.2.1 6784 4 rfl rfl) ?_
                      refine x_imul rfl ?_
                      refine x_iloadn (x := 1) rfl rfl ?_
                      refine x_iadd rfl ?_
                      refine y_iald (v := 0) (N := 160) ((a1 * 4) + 1).toNatClampNeg rfl (F.1 54 (100, 160) rfl rfl) (vpi (by omega)) rfl (F.2.2.2.1 54 rfl rfl _).1 ?_
                      refine x_iret rfl rfl ?_
                      show jX m_X4_partOut 99 0 0 63 [(4, .int 0), (3, .int 0), (0, .ref 107), (1, .int a1), (2, .int a4)] [.int 0, .ref 98] _ 0 0 _
                      refine x_sipush (v := 366) rfl ks_366 ?_
                      refine y_imul (v := 0) rfl (by decide) ?_
                      refine x_iloadn (x := a4) rfl rfl ?_
                      refine x_inv (N := m_X0_turnTo) (As := [.int 0, .int a4]) (b := 98) (st := []) (d' := 98) (mc := 0) (ms := 0) (host := "") 0 rfl t_X0_turnTo ⟨Or.inl q_4_101, i_X0_turnTo.1, i_X0_turnTo.2⟩ ⟨by decide, rfl⟩ (congrArg Prod.fst (F.1 98 (0, 16) rfl rfl)) rfl (by decide) rfl rfl ⟨by decide, by decide⟩ (jC.of rfl k_X0_turnTo rfl ?_)
                      show jX m_X0_turnTo 98 0 0 0 [(0, .ref 98), (1, .int 0), (2, .int a4)] [] _ 0 0 _
                      refine x_aloadn (x := 98) rfl rfl ?_
                      refine x_iloadn (x := 0) rfl rfl ?_
                      refine x_iloadn (x := a4) rfl rfl ?_
                      refine x_inv (N := m_X0_readLaws) (As := [.int 0, .int a4]) (b := 98) (st := []) (d' := 97) (mc := 0) (ms := 0) (host := "") 0 rfl t_X0_readLaws ⟨Or.inl q_0_65, i_X0_readLaws.1, i_X0_readLaws.2⟩ ⟨by decide, rfl⟩ (congrArg Prod.fst (F.1 98 (0, 16) rfl rfl)) rfl (by decide) rfl rfl ⟨by decide, by decide⟩ (jC.of rfl k_X0_readLaws rfl ?_)
                      show jX m_X0_readLaws 97 0 0 0 [(0, .ref 98), (1, .int 0), (2, .int a4)] [] _ 0 0 _
                      refine x_aloadn (x := 98) rfl rfl ?_
                      refine x_iloadn (x := 0) rfl rfl ?_
                      refine x_putI 0 10 rfl f_0_37 rfl (jfin_no TX0 RX0 16 rfl rfl) (congrArg Prod.fst (F.1 98 (0, 16) rfl rfl)) rfl ?_
                      refine x_aloadn (x := 98) rfl rfl ?_
                      refine x_iloadn (x := a4) rfl rfl ?_
                      refine x_putI 0 11 rfl f_0_41 rfl (jfin_no TX0 RX0 16 rfl rfl) (congrArg Prod.fst (F.1 98 (0, 16) rfl rfl)) rfl ?_
                      refine x_aloadn (x := 98) rfl rfl ?_
                      refine x_getR (b := 101) 0 4 rfl f_0_18 rfl (congrArg Prod.fst (F.1 98 (0, 16) rfl rfl)) (F.2.1 12548 101 rfl rfl) ?_
                      refine x_aloadn (x := 98) rfl rfl ?_
                      refine y_getI (v := 0) 0 10 rfl f_0_37 rfl (congrArg Prod.fst (F.1 98 (0, 16) rfl rfl)) rfl ?_
                      refine x_aloadn (x := 98) rfl rfl ?_
                      refine y_getI (v := a4) 0 11 rfl f_0_41 rfl (congrArg Prod.fst (F.1 98 (0, 16) rfl rfl)) rfl ?_
                      refine x_aloadn (x := 98) rfl rfl ?_
                      refine x_getR (b := 32) 0 0 rfl f_0_57 rfl (congrArg Prod.fst (F.1 98 (0, 16) rfl rfl)) (F.2.1 12544 32 rfl rfl) ?_
                      refine y_getI (v := 1) 1 19 rfl f_0_81 rfl (congrArg Prod.fst (F.1 32 (1, 20) rfl rfl)) (F.2.2.1 4115 1 rfl rfl) ?_
                      refine x_inst (N := m_X11_isFresh) (As := [.ref 101, .int 0, .int a4, .int 1]) (st := []) (d' := 96) (mc := 0) (ms := 0) (host := "ParishChest") rfl t_X11_isFresh ⟨Or.inr q_0_84, s_X11_isFresh⟩ rfl (by decide) rfl rfl ⟨by decide, by decide⟩ (jC.of rfl k_X11_isFresh rfl ?_)
                      show jX m_X11_isFresh 96 0 0 0 [(0, .ref 101), (1, .int 0), (2, .int a4), (3, .int 1)] [] _ 0 0 _
                      refine x_aloadn (x := 101) rfl rfl ?_
                      refine y_alen (N := 3) (v := 3) rfl (F.1 101 (100, 3) rfl rfl) (by decide) (by decide) ?_
                      refine x_iconst (v := 3) rfl ki_3 ?_
                      refine x_icge (tgt := 8) rfl rfl (br_t (by decide) ?_)
                      refine x_aloadn (x := 101) rfl rfl ?_
                      refine x_iconst (v := 0) rfl ki_0 ?_
                      refine y_iald (v := 0) (N := 3) 0 rfl (F.1 101 (100, 3) rfl rfl) (jinb_of (by decide)) (by decide) (F.2.2.2.1 101 rfl rfl 0).1 ?_
                      refine x_iloadn (x := 0) rfl rfl ?_
                      refine x_icne (tgt := 33) rfl rfl (bn_f (by decide) ?_)
                      refine x_aloadn (x := 101) rfl rfl ?_
                      refine x_iconst (v := 1) rfl ki_1 ?_
                      refine y_iald (v := 0) (N := 3) 1 rfl (F.1 101 (100, 3) rfl rfl) (jinb_of (by decide)) (by decide) (F.2.2.2.1 101 rfl rfl 1).1 ?_
                      refine x_iloadn (x := a4) rfl rfl ?_
                      refine x_icne (tgt := 33) rfl rfl (ti_ne (show (0 : Int32).toInt = 0 by decide) (show (a4 : Int32).toInt = a4.toInt from rfl) (bn_t c9 ?_))
                      refine x_iconst (v := 0) rfl ki_0 ?_
                      refine x_istore (ls' := [(4, .int 0), (0, .ref 101), (1, .int 0), (2, .int a4), (3, .int 1)]) rfl rfl rfl ?_
                      refine x_aloadn (x := 101) rfl rfl ?_
                      refine x_iconst (v := 0) rfl ki_0 ?_
                      refine x_iloadn (x := 0) rfl rfl ?_
                      refine y_iast (N := 3) 0 rfl (F.1 101 (100, 3) rfl rfl) rfl (jinb_of (by decide)) (by decide) ?_
                      refine x_aloadn (x := 101) rfl rfl ?_
                      refine x_iconst (v := 1) rfl ki_1 ?_
                      refine x_iloadn (x := a4) rfl rfl ?_
                      refine y_iast (N := 3) 1 rfl (F.1 101 (100, 3) rfl rfl) rfl (jinb_of (by decide)) (by decide) ?_
                      refine x_aloadn (x := 101) rfl rfl ?_
                      refine x_iconst (v := 2) rfl ki_2 ?_
                      refine x_iloadn (x := 1) rfl rfl ?_
                      refine y_iast (N := 3) 2 rfl (F.1 101 (100, 3) rfl rfl) rfl (jinb_of (by decide)) (by decide) ?_
                      refine x_iload (x := 0) rfl rfl ?_
                      refine x_zret rfl rfl (by first | decide | exact jp_01 _) ?_
                      show jX m_X0_readLaws 97 0 0 32 [(0, .ref 98), (1, .int 0), (2, .int a4)] [.int 0] _ 0 0 _
                      refine x_ifeq (tgt := 36) rfl rfl (br_t (by decide) ?_)
                      refine x_bipush (v := 30) rfl kb_30 ?_
                      refine x_aloadn (x := 98) rfl rfl ?_
                      refine x_getR (b := 32) 0 0 rfl f_0_57 rfl (congrArg Prod.fst (F.1 98 (0, 16) rfl rfl)) (F.2.1 12544 32 rfl rfl) ?_
                      refine y_getI (v := 0) 1 18 rfl f_0_72 rfl (congrArg Prod.fst (F.1 32 (1, 20) rfl rfl)) (F.2.2.1 4114 0 rfl rfl) ?_
                      refine x_inst (N := m_J9_min_7cf53) (As := [.int 30, .int 0]) (st := []) (d' := 96) (mc := 0) (ms := 0) (host := "") rfl t_J9_min_7cf53 ⟨Or.inl q_0_88, s_J9_min_7cf53⟩ rfl (by decide) rfl rfl ⟨by decide, by decide⟩ (jC.of rfl k_J9_min_7cf53 rfl ?_)
                      show jX m_J9_min_7cf53 96 0 0 0 [(0, .int 30), (1, .int 0)] [] _ 0 0 _
                      refine x_iloadn (x := 30) rfl rfl ?_
                      refine x_iloadn (x := 0) rfl rfl ?_
                      refine x_icgt (tgt := 9) rfl rfl (br_t (by decide) ?_)
                      refine x_iloadn (x := 0) rfl rfl ?_
                      refine x_iret rfl rfl ?_
                      show jX m_X0_readLaws 97 0 0 48 [(0, .ref 98), (1, .int 0), (2, .int a4)] [.int 0] _ 0 0 _
                      refine x_istoren (ls' := [(3, .int 0), (0, .ref 98), (1, .int 0), (2, .int a4)]) rfl rfl rfl ?_
                      refine x_iconst (v := 0) rfl ki_0 ?_
                      refine x_istore (ls' := [(4, .int 0), (3, .int 0), (0, .ref 98), (1, .int 0), (2, .int a4)]) rfl rfl rfl ?_
                      refine x_iload (x := 0) rfl rfl ?_
                      refine x_iloadn (x := 0) rfl rfl ?_
                      refine x_icge (tgt := 80) rfl rfl (br_t (by decide) ?_)
                      refine x_iloadn (x := 0) rfl rfl ?_
                      refine x_iconst (v := 1) rfl ki_1 ?_
                      refine y_isub (v := (-1)) rfl (by decide) ?_
                      refine x_istore (ls' := [(4, .int (-1)), (3, .int 0), (0, .ref 98), (1, .int 0), (2, .int a4)]) rfl rfl rfl ?_
                      refine x_iload (x := (-1)) rfl rfl ?_
                      refine x_iflt (tgt := 167) rfl rfl (br_t (by decide) ?_)
                      refine x_vret rfl rfl ?_
                      show jX m_X0_turnTo 98 0 0 6 [(0, .ref 98), (1, .int 0), (2, .int a4)] [] _ 0 0 _
                      refine x_aloadn (x := 98) rfl rfl ?_
                      refine x_iloadn (x := 0) rfl rfl ?_
                      refine x_iloadn (x := a4) rfl rfl ?_
                      refine x_inv (N := m_X0_readHouses) (As := [.int 0, .int a4]) (b := 98) (st := []) (d' := 97) (mc := 0) (ms := 0) (host := "") 0 rfl t_X0_readHouses ⟨Or.inl q_0_69, i_X0_readHouses.1, i_X0_readHouses.2⟩ ⟨by decide, rfl⟩ (congrArg Prod.fst (F.1 98 (0, 16) rfl rfl)) rfl (by decide) rfl rfl ⟨by decide, by decide⟩ (jC.of rfl k_X0_readHouses rfl ?_)
                      show jX m_X0_readHouses 97 0 0 0 [(0, .ref 98), (1, .int 0), (2, .int a4)] [] _ 0 0 _
                      refine x_aloadn (x := 98) rfl rfl ?_
                      refine x_iloadn (x := 0) rfl rfl ?_
                      refine x_putI 0 10 rfl f_0_37 rfl (jfin_no TX0 RX0 16 rfl rfl) (congrArg Prod.fst (F.1 98 (0, 16) rfl rfl)) rfl ?_
                      refine x_aloadn (x := 98) rfl rfl ?_
                      refine x_iloadn (x := a4) rfl rfl ?_
                      refine x_putI 0 11 rfl f_0_41 rfl (jfin_no TX0 RX0 16 rfl rfl) (congrArg Prod.fst (F.1 98 (0, 16) rfl rfl)) rfl ?_
                      refine x_aloadn (x := 98) rfl rfl ?_
                      refine x_getR (b := 105) 0 8 rfl f_0_30 rfl (congrArg Prod.fst (F.1 98 (0, 16) rfl rfl)) (F.2.1 12552 105 rfl rfl) ?_
                      refine x_aloadn (x := 98) rfl rfl ?_
                      refine y_getI (v := 0) 0 10 rfl f_0_37 rfl (congrArg Prod.fst (F.1 98 (0, 16) rfl rfl)) rfl ?_
                      refine x_aloadn (x := 98) rfl rfl ?_
                      refine y_getI (v := a4) 0 11 rfl f_0_41 rfl (congrArg Prod.fst (F.1 98 (0, 16) rfl rfl)) rfl ?_
                      refine x_aloadn (x := 98) rfl rfl ?_
                      refine x_getR (b := 32) 0 0 rfl f_0_57 rfl (congrArg Prod.fst (F.1 98 (0, 16) rfl rfl)) (F.2.1 12544 32 rfl rfl) ?_
                      refine y_getI (v := 1) 1 19 rfl f_0_81 rfl (congrArg Prod.fst (F.1 32 (1, 20) rfl rfl)) (F.2.2.1 4115 1 rfl rfl) ?_
                      refine x_inst (N := m_X11_isFresh) (As := [.ref 105, .int 0, .int a4, .int 1]) (st := []) (d' := 96) (mc := 0) (ms := 0) (host := "ParishChest") rfl t_X11_isFresh ⟨Or.inr q_0_84, s_X11_isFresh⟩ rfl (by decide) rfl rfl ⟨by decide, by decide⟩ (jC.of rfl k_X11_isFresh rfl ?_)
                      show jX m_X11_isFresh 96 0 0 0 [(0, .ref 105), (1, .int 0), (2, .int a4), (3, .int 1)] [] _ 0 0 _
                      refine x_aloadn (x := 105) rfl rfl ?_
                      refine y_alen (N := 3) (v := 3) rfl (F.1 105 (100, 3) rfl rfl) (by decide) (by decide) ?_
                      refine x_iconst (v := 3) rfl ki_3 ?_
                      refine x_icge (tgt := 8) rfl rfl (br_t (by decide) ?_)
                      refine x_aloadn (x := 105) rfl rfl ?_
                      refine x_iconst (v := 0) rfl ki_0 ?_
                      refine y_iald (v := 0) (N := 3) 0 rfl (F.1 105 (100, 3) rfl rfl) (jinb_of (by decide)) (by decide) (F.2.2.2.1 105 rfl rfl 0).1 ?_
                      refine x_iloadn (x := 0) rfl rfl ?_
                      refine x_icne (tgt := 33) rfl rfl (bn_f (by decide) ?_)
                      refine x_aloadn (x := 105) rfl rfl ?_
                      refine x_iconst (v := 1) rfl ki_1 ?_
                      refine y_iald (v := 0) (N := 3) 1 rfl (F.1 105 (100, 3) rfl rfl) (jinb_of (by decide)) (by decide) (F.2.2.2.1 105 rfl rfl 1).1 ?_
                      refine x_iloadn (x := a4) rfl rfl ?_
                      refine x_icne (tgt := 33) rfl rfl (ti_ne (show (0 : Int32).toInt = 0 by decide) (show (a4 : Int32).toInt = a4.toInt from rfl) (bn_t c9 ?_))
                      refine x_iconst (v := 0) rfl ki_0 ?_
                      refine x_istore (ls' := [(4, .int 0), (0, .ref 105), (1, .int 0), (2, .int a4), (3, .int 1)]) rfl rfl rfl ?_
                      refine x_aloadn (x := 105) rfl rfl ?_
                      refine x_iconst (v := 0) rfl ki_0 ?_
                      refine x_iloadn (x := 0) rfl rfl ?_
                      refine y_iast (N := 3) 0 rfl (F.1 105 (100, 3) rfl rfl) rfl (jinb_of (by decide)) (by decide) ?_
                      refine x_aloadn (x := 105) rfl rfl ?_
                      refine x_iconst (v := 1) rfl ki_1 ?_
                      refine x_iloadn (x := a4) rfl rfl ?_
                      refine y_iast (N := 3) 1 rfl (F.1 105 (100, 3) rfl rfl) rfl (jinb_of (by decide)) (by decide) ?_
                      refine x_aloadn (x := 105) rfl rfl ?_
                      refine x_iconst (v := 2) rfl ki_2 ?_
                      refine x_iloadn (x := 1) rfl rfl ?_
                      refine y_iast (N := 3) 2 rfl (F.1 105 (100, 3) rfl rfl) rfl (jinb_of (by decide)) (by decide) ?_
                      refine x_iload (x := 0) rfl rfl ?_
                      refine x_zret rfl rfl (by first | decide | exact jp_01 _) ?_
                      show jX m_X0_readHouses 97 0 0 32 [(0, .ref 98), (1, .int 0), (2, .int a4)] [.int 0] _ 0 0 _
                      refine x_ifeq (tgt := 36) rfl rfl (br_t (by decide) ?_)
                      refine x_bipush (v := 40) rfl kb_40 ?_
                      refine x_aloadn (x := 98) rfl rfl ?_
                      refine x_getR (b := 32) 0 0 rfl f_0_57 rfl (congrArg Prod.fst (F.1 98 (0, 16) rfl rfl)) (F.2.1 12544 32 rfl rfl) ?_
                      refine x_getR (b := 49) 1 8 rfl f_0_120 rfl (congrArg Prod.fst (F.1 32 (1, 20) rfl rfl)) (F.2.1 4104 49 rfl rfl) ?_
                      refine y_getI (v := 0) 8 3 rfl f_0_124 rfl (congrArg Prod.fst (F.1 49 (8, 4) rfl rfl)) (F.2.2.1 6275 0 rfl rfl) ?_
                      refine x_inst (N := m_J9_min_7cf53) (As := [.int 40, .int 0]) (st := []) (d' := 96) (mc := 0) (ms := 0) (host := "") rfl t_J9_min_7cf53 ⟨Or.inl q_0_88, s_J9_min_7cf53⟩ rfl (by decide) rfl rfl ⟨by decide, by decide⟩ (jC.of rfl k_J9_min_7cf53 rfl ?_)
                      show jX m_J9_min_7cf53 96 0 0 0 [(0, .int 40), (1, .int 0)] [] _ 0 0 _
                      refine x_iloadn (x := 40) rfl rfl ?_
                      refine x_iloadn (x := 0) rfl rfl ?_
                      refine x_icgt (tgt := 9) rfl rfl (br_t (by decide) ?_)
                      refine x_iloadn (x := 0) rfl rfl ?_
                      refine x_iret rfl rfl ?_
                      show jX m_X0_readHouses 97 0 0 51 [(0, .ref 98), (1, .int 0), (2, .int a4)] [.int 0] _ 0 0 _
                      refine x_istoren (ls' := [(3, .int 0), (0, .ref 98), (1, .int 0), (2, .int a4)]) rfl rfl rfl ?_
                      refine x_aloadn (x := 98) rfl rfl ?_
                      refine x_aloadn (x := 98) rfl rfl ?_
                      refine x_getR (b := 32) 0 0 rfl f_0_57 rfl (congrArg Prod.fst (F.1 98 (0, 16) rfl rfl)) (F.2.1 12544 32 rfl rfl) ?_
                      refine x_getR (b := 47) 1 7 rfl f_0_129 rfl (congrArg Prod.fst (F.1 32 (1, 20) rfl rfl)) (F.2.1 4103 47 rfl rfl) ?_
                      refine x_iconst (v := 3) rfl ki_3 ?_
                      refine x_aloadn (x := 98) rfl rfl ?_
                      refine x_getR (b := 102) 0 5 rfl f_0_21 rfl (congrArg Prod.fst (F.1 98 (0, 16) rfl rfl)) (F.2.1 12549 102 rfl rfl) ?_
                      refine x_iconst (v := 0) rfl ki_0 ?_
                      refine x_inv (N := m_X0_readLatest) (As := [.ref 47, .int 3, .ref 102, .int 0]) (b := 98) (st := []) (d' := 96) (mc := 0) (ms := 0) (host := "") 0 rfl t_X0_readLatest ⟨Or.inl q_0_132, i_X0_readLatest.1, i_X0_readLatest.2⟩ ⟨by decide, rfl⟩ (congrArg Prod.fst (F.1 98 (0, 16) rfl rfl)) rfl (by decide) rfl rfl ⟨by decide, by decide⟩ (jC.of rfl k_X0_readLatest rfl ?_)
                      show jX m_X0_readLatest 96 0 0 0 [(0, .ref 98), (1, .ref 47), (2, .int 3), (3, .ref 102), (4, .int 0)] [] _ 0 0 _
                      refine x_iconst (v := 0) rfl ki_0 ?_
                      refine x_istore (ls' := [(5, .int 0), (0, .ref 98), (1, .ref 47), (2, .int 3), (3, .ref 102), (4, .int 0)]) rfl rfl rfl ?_
                      refine x_iload (x := 0) rfl rfl ?_
                      refine x_bipush (v := 40) rfl kb_40 ?_
                      refine x_icge (tgt := 52) rfl rfl (br_f (by decide) ?_)
                      refine x_iload (x := 0) rfl rfl ?_
                      refine x_aloadn (x := 98) rfl rfl ?_
                      refine x_getR (b := 32) 0 0 rfl f_0_57 rfl (congrArg Prod.fst (F.1 98 (0, 16) rfl rfl)) (F.2.1 12544 32 rfl rfl) ?_
                      refine x_getR (b := 49) 1 8 rfl f_0_120 rfl (congrArg Prod.fst (F.1 32 (1, 20) rfl rfl)) (F.2.1 4104 49 rfl rfl) ?_
                      refine y_getI (v := 0) 8 3 rfl f_0_124 rfl (congrArg Prod.fst (F.1 49 (8, 4) rfl rfl)) (F.2.2.1 6275 0 rfl rfl) ?_
                      refine x_icge (tgt := 52) rfl rfl (br_t (by decide) ?_)
                      refine x_iconst (v := 0) rfl ki_0 ?_
                      refine x_istore (ls' := [(5, .int 0), (0, .ref 98), (1, .ref 47), (2, .int 3), (3, .ref 102), (4, .int 0)]) rfl rfl rfl ?_
                      refine x_iload (x := 0) rfl rfl ?_
                      refine x_aloadn (x := 47) rfl rfl ?_
                      refine y_getI (v := 0) 8 3 rfl f_0_124 rfl (congrArg Prod.fst (F.1 47 (8, 4) rfl rfl)) (F.2.2.1 6019 0 rfl rfl) ?_
                      refine x_icge (tgt := 161) rfl rfl (br_t (by decide) ?_)
                      refine x_vret rfl rfl ?_
                      show jX m_X0_readHouses 97 0 0 69 [(3, .int 0), (0, .ref 98), (1, .int 0), (2, .int a4)] [] _ 0 0 _
                      refine x_aloadn (x := 98) rfl rfl ?_
                      refine x_aloadn (x := 98) rfl rfl ?_
                      refine x_getR (b := 32) 0 0 rfl f_0_57 rfl (congrArg Prod.fst (F.1 98 (0, 16) rfl rfl)) (F.2.1 12544 32 rfl rfl) ?_
                      refine x_getR (b := 51) 1 9 rfl f_0_136 rfl (congrArg Prod.fst (F.1 32 (1, 20) rfl rfl)) (F.2.1 4105 51 rfl rfl) ?_
                      refine x_iconst (v := 3) rfl ki_3 ?_
                      refine x_aloadn (x := 98) rfl rfl ?_
                      refine x_getR (b := 103) 0 6 rfl f_0_24 rfl (congrArg Prod.fst (F.1 98 (0, 16) rfl rfl)) (F.2.1 12550 103 rfl rfl) ?_
                      refine x_iconst (v := (-1)) rfl ki_m1 ?_
                      refine x_inv (N := m_X0_readLatest) (As := [.ref 51, .int 3, .ref 103, .int (-1)]) (b := 98) (st := []) (d' := 96) (mc := 0) (ms := 0) (host := "") 0 rfl t_X0_readLatest ⟨Or.inl q_0_132, i_X0_readLatest.1, i_X0_readLatest.2⟩ ⟨by decide, rfl⟩ (congrArg Prod.fst (F.1 98 (0, 16) rfl rfl)) rfl (by decide) rfl rfl ⟨by decide, by decide⟩ (jC.of rfl k_X0_readLatest rfl ?_)
                      show jX m_X0_readLatest 96 0 0 0 [(0, .ref 98), (1, .ref 51), (2, .int 3), (3, .ref 103), (4, .int (-1))] [] _ 0 0 _
                      refine x_iconst (v := 0) rfl ki_0 ?_
                      refine x_istore (ls' := [(5, .int 0), (0, .ref 98), (1, .ref 51), (2, .int 3), (3, .ref 103), (4, .int (-1))]) rfl rfl rfl ?_
                      refine x_iload (x := 0) rfl rfl ?_
                      refine x_bipush (v := 40) rfl kb_40 ?_
                      refine x_icge (tgt := 52) rfl rfl (br_f (by decide) ?_)
                      refine x_iload (x := 0) rfl rfl ?_
                      refine x_aloadn (x := 98) rfl rfl ?_
                      refine x_getR (b := 32) 0 0 rfl f_0_57 rfl (congrArg Prod.fst (F.1 98 (0, 16) rfl rfl)) (F.2.1 12544 32 rfl rfl) ?_
                      refine x_getR (b := 49) 1 8 rfl f_0_120 rfl (congrArg Prod.fst (F.1 32 (1, 20) rfl rfl)) (F.2.1 4104 49 rfl rfl) ?_
                      refine y_getI (v := 0) 8 3 rfl f_0_124 rfl (congrArg Prod.fst (F.1 49 (8, 4) rfl rfl)) (F.2.2.1 6275 0 rfl rfl) ?_
                      refine x_icge (tgt := 52) rfl rfl (br_t (by decide) ?_)
                      refine x_iconst (v := 0) rfl ki_0 ?_
                      refine x_istore (ls' := [(5, .int 0), (0, .ref 98), (1, .ref 51), (2, .int 3), (3, .ref 103), (4, .int (-1))]) rfl rfl rfl ?_
                      refine x_iload (x := 0) rfl rfl ?_
                      refine x_aloadn (x := 51) rfl rfl ?_
                      refine y_getI (v := 0) 8 3 rfl f_0_124 rfl (congrArg Prod.fst (F.1 51 (8, 4) rfl rfl)) (F.2.2.1 6531 0 rfl rfl) ?_
                      refine x_icge (tgt := 161) rfl rfl (br_t (by decide) ?_)
                      refine x_vret rfl rfl ?_
                      show jX m_X0_readHouses 97 0 0 86 [(3, .int 0), (0, .ref 98), (1, .int 0), (2, .int a4)] [] _ 0 0 _
                      refine x_iconst (v := 0) rfl ki_0 ?_
                      refine x_istore (ls' := [(4, .int 0), (3, .int 0), (0, .ref 98), (1, .int 0), (2, .int a4)]) rfl rfl rfl ?_
                      refine x_iload (x := 0) rfl rfl ?_
                      refine x_iloadn (x := 0) rfl rfl ?_
                      refine x_icge (tgt := 172) rfl rfl (br_t (by decide) ?_)
                      refine x_vret rfl rfl ?_
                      show jX m_X0_turnTo 98 0 0 12 [(0, .ref 98), (1, .int 0), (2, .int a4)] [] _ 0 0 _
                      refine x_vret rfl rfl ?_
                      show jX m_X4_partOut 99 0 0 71 [(4, .int 0), (3, .int 0), (0, .ref 107), (1, .int a1), (2, .int a4)] [] _ 0 0 _
                      refine x_lconst (v := 0) rfl kl_0 ?_
                      refine x_lstore (ls' := [(5, .long 0), (4, .int 0), (3, .int 0), (0, .ref 107), (1, .int a1), (2, .int a4)]) rfl rfl rfl ?_
                      refine x_iconst (v := 0) rfl ki_0 ?_
                      refine x_istore (ls' := [(7, .int 0), (5, .long 0), (4, .int 0), (3, .int 0), (0, .ref 107), (1, .int a1), (2, .int a4)]) rfl rfl rfl ?_
                      refine x_iload (x := 0) rfl rfl ?_
                      refine x_aloadn (x := 107) rfl rfl ?_
                      refine x_inv (N := m_X4_houses) (As := []) (b := 107) (st := [.int 0]) (d' := 98) (mc := 0) (ms := 0) (host := "") 4 rfl t_X4_houses ⟨Or.inl q_4_107, i_X4_houses.1, i_X4_houses.2⟩ ⟨by decide, rfl⟩ (congrArg Prod.fst (F.1 107 (4, 18) rfl rfl)) rfl (by decide) rfl rfl ⟨by decide, by decide⟩ (jC.of rfl k_X4_houses rfl ?_)
                      show jX m_X4_houses 98 0 0 0 [(0, .ref 107)] [] _ 0 0 _
                      refine x_bipush (v := 40) rfl kb_40 ?_
                      refine x_aloadn (x := 107) rfl rfl ?_
                      refine x_getR (b := 32) 4 0 rfl f_4_59 rfl (congrArg Prod.fst (F.1 107 (4, 18) rfl rfl)) (F.2.1 13696 32 rfl rfl) ?_
                      refine x_getR (b := 49) 1 8 rfl f_4_71 rfl (congrArg Prod.fst (F.1 32 (1, 20) rfl rfl)) (F.2.1 4104 49 rfl rfl) ?_
                      refine y_getI (v := 0) 8 3 rfl f_4_77 rfl (congrArg Prod.fst (F.1 49 (8, 4) rfl rfl)) (F.2.2.1 6275 0 rfl rfl) ?_
                      refine x_inst (N := m_J9_min_7cf53) (As := [.int 40, .int 0]) (st := []) (d' := 97) (mc := 0) (ms := 0) (host := "") rfl t_J9_min_7cf53 ⟨Or.inl q_4_82, s_J9_min_7cf53⟩ rfl (by decide) rfl rfl ⟨by decide, by decide⟩ (jC.of rfl k_J9_min_7cf53 rfl ?_)
                      show jX m_J9_min_7cf53 97 0 0 0 [(0, .int 40), (1, .int 0)] [] _ 0 0 _
                      refine x_iloadn (x := 40) rfl rfl ?_
                      refine x_iloadn (x := 0) rfl rfl ?_
                      refine x_icgt (tgt := 9) rfl rfl (br_t (by decide) ?_)
                      refine x_iloadn (x := 0) rfl rfl ?_
                      refine x_iret rfl rfl ?_
                      show jX m_X4_houses 98 0 0 15 [(0, .ref 107)] [.int 0] _ 0 0 _
                      refine x_iret rfl rfl ?_
                      show jX m_X4_partOut 99 0 0 83 [(7, .int 0), (5, .long 0), (4, .int 0), (3, .int 0), (0, .ref 107), (1, .int a1), (2, .int a4)] [.int 0, .int 0] _ 0 0 _
                      refine x_icge (tgt := 187) rfl rfl (br_t (by decide) ?_)
                      refine x_aloadn (x := 107) rfl rfl ?_
                      refine x_iload (x := 0) rfl rfl ?_
                      refine x_lload (x := 0) rfl rfl ?_
                      refine x_inv (N := m_X4_share) (As := [.int 0, .long 0]) (b := 107) (st := []) (d' := 98) (mc := 0) (ms := 0) (host := "") 4 rfl t_X4_share ⟨Or.inl q_4_123, i_X4_share.1, i_X4_share.2⟩ ⟨by decide, rfl⟩ (congrArg Prod.fst (F.1 107 (4, 18) rfl rfl)) rfl (by decide) rfl rfl ⟨by decide, by decide⟩ (jC.of rfl k_X4_share rfl ?_)
                      show jX m_X4_share 98 0 0 0 [(0, .ref 107), (1, .int 0), (2, .long 0)] [] _ 0 0 _
                      refine x_lloadn (x := 0) rfl rfl ?_
                      refine x_lconst (v := 0) rfl kl_0 ?_
                      refine y_lcmp (v := 0) rfl (by decide) ?_
                      refine x_ifne (tgt := 10) rfl rfl (bn_f (by decide) ?_)
                      refine x_lconst (v := 0) rfl kl_0 ?_
                      refine x_goto (tgt := 12) rfl rfl ?_
                      refine x_lstore (ls' := [(4, .long 0), (0, .ref 107), (1, .int 0), (2, .long 0)]) rfl rfl rfl ?_
                      refine x_iconst (v := 0) rfl ki_0 ?_
                      refine x_istore (ls' := [(6, .int 0), (4, .long 0), (0, .ref 107), (1, .int 0), (2, .long 0)]) rfl rfl rfl ?_
                      refine x_iload (x := 0) rfl rfl ?_
                      refine x_aloadn (x := 107) rfl rfl ?_
                      refine x_inv (N := m_X4_houses) (As := []) (b := 107) (st := [.int 0]) (d' := 97) (mc := 0) (ms := 0) (host := "") 4 rfl t_X4_houses ⟨Or.inl q_4_107, i_X4_houses.1, i_X4_houses.2⟩ ⟨by decide, rfl⟩ (congrArg Prod.fst (F.1 107 (4, 18) rfl rfl)) rfl (by decide) rfl rfl ⟨by decide, by decide⟩ (jC.of rfl k_X4_houses rfl ?_)
                      show jX m_X4_houses 97 0 0 0 [(0, .ref 107)] [] _ 0 0 _
                      refine x_bipush (v := 40) rfl kb_40 ?_
                      refine x_aloadn (x := 107) rfl rfl ?_
                      refine x_getR (b := 32) 4 0 rfl f_4_59 rfl (congrArg Prod.fst (F.1 107 (4, 18) rfl rfl)) (F.2.1 13696 32 rfl rfl) ?_
                      refine x_getR (b := 49) 1 8 rfl f_4_71 rfl (congrArg Prod.fst (F.1 32 (1, 20) rfl rfl)) (F.2.1 4104 49 rfl rfl) ?_
                      refine y_getI (v := 0) 8 3 rfl f_4_77 rfl (congrArg Prod.fst (F.1 49 (8, 4) rfl rfl)) (F.2.2.1 6275 0 rfl rfl) ?_
                      refine x_inst (N := m_J9_min_7cf53) (As := [.int 40, .int 0]) (st := []) (d' := 96) (mc := 0) (ms := 0) (host := "") rfl t_J9_min_7cf53 ⟨Or.inl q_4_82, s_J9_min_7cf53⟩ rfl (by decide) rfl rfl ⟨by decide, by decide⟩ (jC.of rfl k_J9_min_7cf53 rfl ?_)
                      show jX m_J9_min_7cf53 96 0 0 0 [(0, .int 40), (1, .int 0)] [] _ 0 0 _
                      refine x_iloadn (x := 40) rfl rfl ?_
                      refine x_iloadn (x := 0) rfl rfl ?_
                      refine x_icgt (tgt := 9) rfl rfl (br_t (by decide) ?_)
                      refine x_iloadn (x := 0) rfl rfl ?_
                      refine x_iret rfl rfl ?_
                      show jX m_X4_houses 97 0 0 15 [(0, .ref 107)] [.int 0] _ 0 0 _
                      refine x_iret rfl rfl ?_
                      show jX m_X4_share 98 0 0 23 [(6, .int 0), (4, .long 0), (0, .ref 107), (1, .int 0), (2, .long 0)] [.int 0, .int 0] _ 0 0 _
                      refine x_icge (tgt := 113) rfl rfl (br_t (by decide) ?_)
                      refine x_iconst (v := 0) rfl ki_0 ?_
                      refine x_istore (ls' := [(6, .int 0), (4, .long 0), (0, .ref 107), (1, .int 0), (2, .long 0)]) rfl rfl rfl ?_
                      refine x_iload (x := 0) rfl rfl ?_
                      refine x_bipush (v := 40) rfl kb_40 ?_
                      refine x_icge (tgt := 175) rfl rfl (br_f (by decide) ?_)
                      refine x_lload (x := 0) rfl rfl ?_
                      refine x_lconst (v := 0) rfl kl_0 ?_
                      refine y_lcmp (v := 0) rfl (by decide) ?_
                      refine x_ifle (tgt := 175) rfl rfl (br_t (by decide) ?_)
                      refine x_vret rfl rfl ?_
                      show jX m_X4_partOut 99 0 0 195 [(7, .int 0), (5, .long 0), (4, .int 0), (3, .int 0), (0, .ref 107), (1, .int a1), (2, .int a4)] [] _ 0 0 _
                      refine x_iconst (v := 0) rfl ki_0 ?_
                      refine x_istore (ls' := [(7, .int 0), (5, .long 0), (4, .int 0), (3, .int 0), (0, .ref 107), (1, .int a1), (2, .int a4)]) rfl rfl rfl ?_
                      refine x_iload (x := 0) rfl rfl ?_
                      refine x_aloadn (x := 107) rfl rfl ?_
                      refine x_inv (N := m_X4_houses) (As := []) (b := 107) (st := [.int 0]) (d' := 98) (mc := 0) (ms := 0) (host := "") 4 rfl t_X4_houses ⟨Or.inl q_4_107, i_X4_houses.1, i_X4_houses.2⟩ ⟨by decide, rfl⟩ (congrArg Prod.fst (F.1 107 (4, 18) rfl rfl)) rfl (by decide) rfl rfl ⟨by decide, by decide⟩ (jC.of rfl k_X4_houses rfl ?_)
                      show jX m_X4_houses 98 0 0 0 [(0, .ref 107)] [] _ 0 0 _
                      refine x_bipush (v := 40) rfl kb_40 ?_
                      refine x_aloadn (x := 107) rfl rfl ?_
                      refine x_getR (b := 32) 4 0 rfl f_4_59 rfl (congrArg Prod.fst (F.1 107 (4, 18) rfl rfl)) (F.2.1 13696 32 rfl rfl) ?_
                      refine x_getR (b := 49) 1 8 rfl f_4_71 rfl (congrArg Prod.fst (F.1 32 (1, 20) rfl rfl)) (F.2.1 4104 49 rfl rfl) ?_
                      refine y_getI (v := 0) 8 3 rfl f_4_77 rfl (congrArg Prod.fst (F.1 49 (8, 4) rfl rfl)) (F.2.2.1 6275 0 rfl rfl) ?_
                      refine x_inst (N := m_J9_min_7cf53) (As := [.int 40, .int 0]) (st := []) (d' := 97) (mc := 0) (ms := 0) (host := "") rfl t_J9_min_7cf53 ⟨Or.inl q_4_82, s_J9_min_7cf53⟩ rfl (by decide) rfl rfl ⟨by decide, by decide⟩ (jC.of rfl k_J9_min_7cf53 rfl ?_)
                      show jX m_J9_min_7cf53 97 0 0 0 [(0, .int 40), (1, .int 0)] [] _ 0 0 _
                      refine x_iloadn (x := 40) rfl rfl ?_
                      refine x_iloadn (x := 0) rfl rfl ?_
                      refine x_icgt (tgt := 9) rfl rfl (br_t (by decide) ?_)
                      refine x_iloadn (x := 0) rfl rfl ?_
                      refine x_iret rfl rfl ?_
                      show jX m_X4_houses 98 0 0 15 [(0, .ref 107)] [.int 0] _ 0 0 _
                      refine x_iret rfl rfl ?_
                      show jX m_X4_partOut 99 0 0 204 [(7, .int 0), (5, .long 0), (4, .int 0), (3, .int 0), (0, .ref 107), (1, .int a1), (2, .int a4)] [.int 0, .int 0] _ 0 0 _
                      refine x_icge (tgt := 275) rfl rfl (br_t (by decide) ?_)
                      refine x_vret rfl rfl ?_
                      show jX m_X11_arrear 100 0 0 62 [(0, .ref 31), (1, .int a1), (2, .int a2), (3, .int a3), (4, .int a4)] [] _ 0 0 _
                      refine x_aloadn (x := 31) rfl rfl ?_
                      refine x_getR (b := 107) 11 8 rfl f_11_75 rfl (congrArg Prod.fst (F.1 31 (11, 13) rfl rfl)) (F.2.1 3976 107 rfl rfl) ?_
                      refine x_getR (b := 108) 4 3 rfl f_11_449 rfl (congrArg Prod.fst (F.1 107 (4, 18) rfl rfl)) (F.2.1 13699 108 rfl rfl) ?_
                      refine x_iloadn (x := a2) rfl rfl ?_
                      refine y_iald (v := 0) (N := 40) a2.toNatClampNeg rfl (F.1 108 (100, 40) rfl rfl) (vpi (by omega)) rfl (F.2.2.2.1 108 rfl rfl _).1 ?_
                      refine x_istore (ls' := [(5, .int 0), (0, .ref 31), (1, .int a1), (2, .int a2), (3, .int a3), (4, .int a4)]) rfl rfl rfl ?_
                      refine x_iconst (v := 0) rfl ki_0 ?_
                      refine x_istore (ls' := [(6, .int 0), (5, .int 0), (0, .ref 31), (1, .int a1), (2, .int a2), (3, .int a3), (4, .int a4)]) rfl rfl rfl ?_
                      refine x_iload (x := 0) rfl rfl ?_
                      refine x_aloadn (x := 31) rfl rfl ?_
                      refine x_getR (b := 32) 11 0 rfl f_11_10 rfl (congrArg Prod.fst (F.1 31 (11, 13) rfl rfl)) (F.2.1 3968 32 rfl rfl) ?_
                      refine x_getR (b := 55) 1 11 rfl f_11_452 rfl (congrArg Prod.fst (F.1 32 (1, 20) rfl rfl)) (F.2.1 4107 55 rfl rfl) ?_
                      refine y_getI (v := 0) 8 3 rfl f_11_142 rfl (congrArg Prod.fst (F.1 55 (8, 4) rfl rfl)) (F.2.2.1 7043 0 rfl rfl) ?_
                      refine x_icge (tgt := 183) rfl rfl (br_t (by decide) ?_)
                      refine x_iload (x := 0) rfl rfl ?_
                      refine x_iret rfl rfl ?_
                      exact jqe (show sp_arrear a1 a2 a3 a4 = 0 by unfold sp_arrear; (repeat' split) <;> first | rfl | (exfalso; omega)) (hQ _ (by repeat (first | exact FM | refine jFb_si rfl ?_ | refine jFb_sl rfl ?_ | refine jFb_ci rfl ?_ | refine jFb_cl rfl ?_ | refine jFb_sr rfl ?_)) (by repeat (first | exact O | refine jOl_si rfl ?_ | refine jOl_sl rfl ?_ | refine jOl_ci rfl ?_ | refine jOl_cl rfl ?_ | refine jOl_sr rfl ?_)))
                  ·
                    refine x_aloadn (x := 86) rfl rfl ?_
                    refine x_iconst (v := 1) rfl ki_1 ?_
                    refine y_iald (v := 0) (N := 3) 1 rfl (F.1 86 (100, 3) rfl rfl) (jinb_of (by decide)) (by decide) (F.2.2.2.1 86 rfl rfl 1).1 ?_
                    refine x_iloadn (x := 0) rfl rfl ?_
                    refine x_icne (tgt := 33) rfl rfl (bn_f (by decide) ?_)
                    refine x_aloadn (x := 86) rfl rfl ?_
                    refine x_iconst (v := 2) rfl ki_2 ?_
                    refine y_iald (v := 0) (N := 3) 2 rfl (F.1 86 (100, 3) rfl rfl) (jinb_of (by decide)) (by decide) (F.2.2.2.1 86 rfl rfl 2).1 ?_
                    refine x_iloadn (x := 1) rfl rfl ?_
                    refine x_icne (tgt := 33) rfl rfl (bn_t (by decide) ?_)
                    refine x_iconst (v := 0) rfl ki_0 ?_
                    refine x_istore (ls' := [(4, .int 0), (0, .ref 86), (1, .int a4), (2, .int 0), (3, .int 1)]) rfl rfl rfl ?_
                    refine x_aloadn (x := 86) rfl rfl ?_
                    refine x_iconst (v := 0) rfl ki_0 ?_
                    refine x_iloadn (x := a4) rfl rfl ?_
                    refine y_iast (N := 3) 0 rfl (F.1 86 (100, 3) rfl rfl) rfl (jinb_of (by decide)) (by decide) ?_
                    refine x_aloadn (x := 86) rfl rfl ?_
                    refine x_iconst (v := 1) rfl ki_1 ?_
                    refine x_iloadn (x := 0) rfl rfl ?_
                    refine y_iast (N := 3) 1 rfl (F.1 86 (100, 3) rfl rfl) rfl (jinb_of (by decide)) (by decide) ?_
                    refine x_aloadn (x := 86) rfl rfl ?_
                    refine x_iconst (v := 2) rfl ki_2 ?_
                    refine x_iloadn (x := 1) rfl rfl ?_
                    refine y_iast (N := 3) 2 rfl (F.1 86 (100, 3) rfl rfl) rfl (jinb_of (by decide)) (by decide) ?_
                    refine x_iload (x := 0) rfl rfl ?_
                    refine x_zret rfl rfl (by first | decide | exact jp_01 _) ?_
                    show jX m_X7_asKnown 99 0 0 16 [(0, .ref 78), (1, .int a4)] [.int 0] _ 0 0 _
                    refine x_ifeq (tgt := 20) rfl rfl (br_t (by decide) ?_)
                    refine x_iconst (v := 0) rfl ki_0 ?_
                    refine x_istoren (ls' := [(2, .int 0), (0, .ref 78), (1, .int a4)]) rfl rfl rfl ?_
                    refine x_iloadn (x := 0) rfl rfl ?_
                    refine x_aloadn (x := 78) rfl rfl ?_
                    refine x_getR (b := 32) 7 0 rfl f_7_55 rfl (congrArg Prod.fst (F.1 78 (7, 16) rfl rfl)) (F.2.1 9984 32 rfl rfl) ?_
                    refine x_getR (b := 33) 1 0 rfl f_7_63 rfl (congrArg Prod.fst (F.1 32 (1, 20) rfl rfl)) (F.2.1 4096 33 rfl rfl) ?_
                    refine y_getI (v := 0) 8 3 rfl f_7_85 rfl (congrArg Prod.fst (F.1 33 (8, 4) rfl rfl)) (F.2.2.1 4227 0 rfl rfl) ?_
                    refine x_iconst (v := 3) rfl ki_3 ?_
                    refine y_imul (v := 0) rfl (by decide) ?_
                    refine x_icge (tgt := 96) rfl rfl (br_t (by decide) ?_)
                    refine x_aloadn (x := 78) rfl rfl ?_
                    refine x_iconst (v := 0) rfl ki_0 ?_
                    refine x_putI 7 13 rfl f_7_46 rfl (jfin_no TX7 RX7 16 rfl rfl) (congrArg Prod.fst (F.1 78 (7, 16) rfl rfl)) rfl ?_
                    refine x_iconst (v := 0) rfl ki_0 ?_
                    refine x_istoren (ls' := [(2, .int 0), (0, .ref 78), (1, .int a4)]) rfl rfl rfl ?_
                    refine x_iloadn (x := 0) rfl rfl ?_
                    refine x_aloadn (x := 78) rfl rfl ?_
                    refine x_getR (b := 32) 7 0 rfl f_7_55 rfl (congrArg Prod.fst (F.1 78 (7, 16) rfl rfl)) (F.2.1 9984 32 rfl rfl) ?_
                    refine x_getR (b := 39) 1 3 rfl f_7_150 rfl (congrArg Prod.fst (F.1 32 (1, 20) rfl rfl)) (F.2.1 4099 39 rfl rfl) ?_
                    refine y_getI (v := 0) 8 3 rfl f_7_85 rfl (congrArg Prod.fst (F.1 39 (8, 4) rfl rfl)) (F.2.2.1 4995 0 rfl rfl) ?_
                    refine x_icge (tgt := 175) rfl rfl (br_t (by decide) ?_)
                    refine x_vret rfl rfl ?_
                    show jX m_X11_arrear 100 0 0 52 [(0, .ref 31), (1, .int a1), (2, .int a2), (3, .int a3), (4, .int a4)] [] _ 0 0 _
                    refine x_aloadn (x := 31) rfl rfl ?_
                    refine x_getR (b := 107) 11 8 rfl f_11_75 rfl (congrArg Prod.fst (F.1 31 (11, 13) rfl rfl)) (F.2.1 3976 107 rfl rfl) ?_
                    refine x_iloadn (x := a1) rfl rfl ?_
                    refine x_iload (x := a4) rfl rfl ?_
                    refine x_inv (N := m_X4_partOut) (As := [.int a1, .int a4]) (b := 107) (st := []) (d' := 99) (mc := 0) (ms := 0) (host := "") 4 rfl t_X4_partOut ⟨Or.inl q_11_443, i_X4_partOut.1, i_X4_partOut.2⟩ ⟨by decide, rfl⟩ (congrArg Prod.fst (F.1 107 (4, 18) rfl rfl)) rfl (by decide) rfl rfl ⟨by decide, by decide⟩ (jC.of rfl k_X4_partOut rfl ?_)
                    show jX m_X4_partOut 99 0 0 0 [(0, .ref 107), (1, .int a1), (2, .int a4)] [] _ 0 0 _
                    refine x_aloadn (x := 107) rfl rfl ?_
                    refine x_getR (b := 111) 4 6 rfl f_4_22 rfl (congrArg Prod.fst (F.1 107 (4, 18) rfl rfl)) (F.2.1 13702 111 rfl rfl) ?_
                    refine x_iloadn (x := a1) rfl rfl ?_
                    refine x_iloadn (x := a4) rfl rfl ?_
                    refine x_aloadn (x := 107) rfl rfl ?_
                    refine x_getR (b := 32) 4 0 rfl f_4_59 rfl (congrArg Prod.fst (F.1 107 (4, 18) rfl rfl)) (F.2.1 13696 32 rfl rfl) ?_
                    refine y_getI (v := 1) 1 19 rfl f_4_88 rfl (congrArg Prod.fst (F.1 32 (1, 20) rfl rfl)) (F.2.2.1 4115 1 rfl rfl) ?_
                    refine x_inst (N := m_X11_isFresh) (As := [.ref 111, .int a1, .int a4, .int 1]) (st := []) (d' := 98) (mc := 0) (ms := 0) (host := "ParishChest") rfl t_X11_isFresh ⟨Or.inr q_4_91, s_X11_isFresh⟩ rfl (by decide) rfl rfl ⟨by decide, by decide⟩ (jC.of rfl k_X11_isFresh rfl ?_)
                    show jX m_X11_isFresh 98 0 0 0 [(0, .ref 111), (1, .int a1), (2, .int a4), (3, .int 1)] [] _ 0 0 _
                    refine x_aloadn (x := 111) rfl rfl ?_
                    refine y_alen (N := 3) (v := 3) rfl (F.1 111 (100, 3) rfl rfl) (by decide) (by decide) ?_
                    refine x_iconst (v := 3) rfl ki_3 ?_
                    refine x_icge (tgt := 8) rfl rfl (br_t (by decide) ?_)
                    refine x_aloadn (x := 111) rfl rfl ?_
                    refine x_iconst (v := 0) rfl ki_0 ?_
                    refine y_iald (v := 0) (N := 3) 0 rfl (F.1 111 (100, 3) rfl rfl) (jinb_of (by decide)) (by decide) (F.2.2.2.1 111 rfl rfl 0).1 ?_
                    refine x_iloadn (x := a1) rfl rfl ?_
                    refine x_icne (tgt := 33) rfl rfl (ti_ne (show (0 : Int32).toInt = 0 by decide) (show (a1 : Int32).toInt = a1.toInt from rfl) ⟨fun c11 => ?_, fun c11 => ?_⟩)
                    ·
                      refine x_iconst (v := 0) rfl ki_0 ?_
                      refine x_istore (ls' := [(4, .int 0), (0, .ref 111), (1, .int a1), (2, .int a4), (3, .int 1)]) rfl rfl rfl ?_
                      refine x_aloadn (x := 111) rfl rfl ?_
                      refine x_iconst (v := 0) rfl ki_0 ?_
                      refine x_iloadn (x := a1) rfl rfl ?_
                      refine y_iast (N := 3) 0 rfl (F.1 111 (100, 3) rfl rfl) rfl (jinb_of (by decide)) (by decide) ?_
                      refine x_aloadn (x := 111) rfl rfl ?_
                      refine x_iconst (v := 1) rfl ki_1 ?_
                      refine x_iloadn (x := a4) rfl rfl ?_
                      refine y_iast (N := 3) 1 rfl (F.1 111 (100, 3) rfl rfl) rfl (jinb_of (by decide)) (by decide) ?_
                      refine x_aloadn (x := 111) rfl rfl ?_
                      refine x_iconst (v := 2) rfl ki_2 ?_
                      refine x_iloadn (x := 1) rfl rfl ?_
                      refine y_iast (N := 3) 2 rfl (F.1 111 (100, 3) rfl rfl) rfl (jinb_of (by decide)) (by decide) ?_
                      refine x_iload (x := 0) rfl rfl ?_
                      refine x_zret rfl rfl (by first | decide | exact jp_01 _) ?_
                      show jX m_X4_partOut 99 0 0 16 [(0, .ref 107), (1, .int a1), (2, .int a4)] [.int 0] _ 0 0 _
                      refine x_ifeq (tgt := 20) rfl rfl (br_t (by decide) ?_)
                      refine x_aloadn (x := 107) rfl rfl ?_
                      refine x_getR (b := 32) 4 0 rfl f_4_59 rfl (congrArg Prod.fst (F.1 107 (4, 18) rfl rfl)) (F.2.1 13696 32 rfl rfl) ?_
                      refine x_getR (b := 53) 1 10 rfl f_4_95 rfl (congrArg Prod.fst (F.1 32 (1, 20) rfl rfl)) (F.2.1 4106 53 rfl rfl) ?_
                      refine x_iloadn (x := a1) rfl rfl ?_
                      refine x_iconst (v := 2) rfl ki_2 ?_
                      refine x_inv (N := m_X8_at) (As := [.int a1, .int 2]) (b := 53) (st := []) (d' := 98) (mc := 0) (ms := 0) (host := "") 8 rfl t_X8_at ⟨Or.inl q_4_98, i_X8_at.1, i_X8_at.2⟩ ⟨by decide, rfl⟩ (congrArg Prod.fst (F.1 53 (8, 4) rfl rfl)) rfl (by decide) rfl rfl ⟨by decide, by decide⟩ (jC.of rfl k_X8_at rfl ?_)
                      show jX m_X8_at 98 0 0 0 [(0, .ref 53), (1, .int a1), (2, .int 2)] [] _ 0 0 _
                      refine x_iloadn (x := a1) rfl rfl ?_
                      refine x_iflt (tgt := 24) rfl rfl (ti_lt (show (a1 : Int32).toInt = a1.toInt from rfl) (show (0 : Int32).toInt = 0 by decide) (br_f c3 ?_))
                      refine x_iloadn (x := a1) rfl rfl ?_
                      refine x_aloadn (x := 53) rfl rfl ?_
                      refine y_getI (v := 0) 8 3 rfl f_8_7 rfl (congrArg Prod.fst (F.1 53 (8, 4) rfl rfl)) (F.2.2.1 6787 0 rfl rfl) ?_
                      refine x_icge (tgt := 24) rfl rfl (ti_ge (show (a1 : Int32).toInt = a1.toInt from rfl) (show (0 : Int32).toInt = 0 by decide) (br_f c4 ?_))
                      refine x_iloadn (x := 2) rfl rfl ?_
                      refine x_iflt (tgt := 24) rfl rfl (br_f (by decide) ?_)
                      refine x_iloadn (x := 2) rfl rfl ?_
                      refine x_aloadn (x := 53) rfl rfl ?_
                      refine y_getI (v := 4) 8 0 rfl f_8_19 rfl (congrArg Prod.fst (F.1 53 (8, 4) rfl rfl)) (F.2.2.1 6784 4 rfl rfl) ?_
                      refine x_iclt (tgt := 26) rfl rfl (br_t (by decide) ?_)
                      refine x_aloadn (x := 53) rfl rfl ?_
                      refine x_getR (b := 54) 8 2 rfl f_8_25 rfl (congrArg Prod.fst (F.1 53 (8, 4) rfl rfl)) (F.2.1 6786 54 rfl rfl) ?_
                      refine x_iloadn (x := a1) rfl rfl ?_
                      refine x_aloadn (x := 53) rfl rfl ?_
                      refine y_getI (v := 4) 8 0 rfl f_8_19 rfl (congrArg Prod.fst (F.1 53 (8, 4) rfl rfl)) (F.2.2.1 6784 4 rfl rfl) ?_
                      refine x_imul rfl ?_
                      refine x_iloadn (x := 2) rfl rfl ?_
                      refine x_iadd rfl ?_
                      refine y_iald (v := 0) (N := 160) ((a1 * 4) + 2).toNatClampNeg rfl (F.1 54 (100, 160) rfl rfl) (vpi (by omega)) rfl (F.2.2.2.1 54 rfl rfl _).1 ?_
                      refine x_iret rfl rfl ?_
                      show jX m_X4_partOut 99 0 0 32 [(0, .ref 107), (1, .int a1), (2, .int a4)] [.int 0] _ 0 0 _
                      refine x_istoren (ls' := [(3, .int 0), (0, .ref 107), (1, .int a1), (2, .int a4)]) rfl rfl rfl ?_
                      refine x_aloadn (x := 107) rfl rfl ?_
                      refine x_getR (b := 32) 4 0 rfl f_4_59 rfl (congrArg Prod.fst (F.1 107 (4, 18) rfl rfl)) (F.2.1 13696 32 rfl rfl) ?_
                      refine x_getR (b := 53) 1 10 rfl f_4_95 rfl (congrArg Prod.fst (F.1 32 (1, 20) rfl rfl)) (F.2.1 4106 53 rfl rfl) ?_
                      refine x_iloadn (x := a1) rfl rfl ?_
                      refine x_iconst (v := 3) rfl ki_3 ?_
                      refine x_inv (N := m_X8_at) (As := [.int a1, .int 3]) (b := 53) (st := []) (d' := 98) (mc := 0) (ms := 0) (host := "") 8 rfl t_X8_at ⟨Or.inl q_4_98, i_X8_at.1, i_X8_at.2⟩ ⟨by decide, rfl⟩ (congrArg Prod.fst (F.1 53 (8, 4) rfl rfl)) rfl (by decide) rfl rfl ⟨by decide, by decide⟩ (jC.of rfl k_X8_at rfl ?_)
                      show jX m_X8_at 98 0 0 0 [(0, .ref 53), (1, .int a1), (2, .int 3)] [] _ 0 0 _
                      refine x_iloadn (x := a1) rfl rfl ?_
                      refine x_iflt (tgt := 24) rfl rfl (ti_lt (show (a1 : Int32).toInt = a1.toInt from rfl) (show (0 : Int32).toInt = 0 by decide) (br_f c3 ?_))
                      refine x_iloadn (x := a1) rfl rfl ?_
                      refine x_aloadn (x := 53) rfl rfl ?_
                      refine y_getI (v := 0) 8 3 rfl f_8_7 rfl (congrArg Prod.fst (F.1 53 (8, 4) rfl rfl)) (F.2.2.1 6787 0 rfl rfl) ?_
                      refine x_icge (tgt := 24) rfl rfl (ti_ge (show (a1 : Int32).toInt = a1.toInt from rfl) (show (0 : Int32).toInt = 0 by decide) (br_f c4 ?_))
                      refine x_iloadn (x := 3) rfl rfl ?_
                      refine x_iflt (tgt := 24) rfl rfl (br_f (by decide) ?_)
                      refine x_iloadn (x := 3) rfl rfl ?_
                      refine x_aloadn (x := 53) rfl rfl ?_
                      refine y_getI (v := 4) 8 0 rfl f_8_19 rfl (congrArg Prod.fst (F.1 53 (8, 4) rfl rfl)) (F.2.2.1 6784 4 rfl rfl) ?_
                      refine x_iclt (tgt := 26) rfl rfl (br_t (by decide) ?_)
                      refine x_aloadn (x := 53) rfl rfl ?_
                      refine x_getR (b := 54) 8 2 rfl f_8_25 rfl (congrArg Prod.fst (F.1 53 (8, 4) rfl rfl)) (F.2.1 6786 54 rfl rfl) ?_
                      refine x_iloadn (x := a1) rfl rfl ?_
                      refine x_aloadn (x := 53) rfl rfl ?_
                      refine y_getI (v := 4) 8 0 rfl f_8_19 rfl (congrArg Prod.fst (F.1 53 (8, 4) rfl rfl)) (F.2.2.1 6784 4 rfl rfl) ?_
                      refine x_imul rfl ?_
                      refine x_iloadn (x := 3) rfl rfl ?_
                      refine x_iadd rfl ?_
                      refine y_iald (v := 0) (N := 160) ((a1 * 4) + 3).toNatClampNeg rfl (F.1 54 (100, 160) rfl rfl) (vpi (by omega)) rfl (F.2.2.2.1 54 rfl rfl _).1 ?_
                      refine x_iret rfl rfl ?_
                      show jX m_X4_partOut 99 0 0 45 [(3, .int 0), (0, .ref 107), (1, .int a1), (2, .int a4)] [.int 0] _ 0 0 _
                      refine x_istore (ls' := [(4, .int 0), (3, .int 0), (0, .ref 107), (1, .int a1), (2, .int a4)]) rfl rfl rfl ?_
                      refine x_aloadn (x := 107) rfl rfl ?_
                      refine x_getR (b := 98) 4 2 rfl f_4_67 rfl (congrArg Prod.fst (F.1 107 (4, 18) rfl rfl)) (F.2.1 13698 98 rfl rfl) ?_
                      refine x_aloadn (x := 107) rfl rfl ?_
                      refine x_getR (b := 32) 4 0 rfl f_4_59 rfl (congrArg Prod.fst (F.1 107 (4, 18) rfl rfl)) (F.2.1 13696 32 rfl rfl) ?_
                      refine x_getR (b := 53) 1 10 rfl f_4_95 rfl (congrArg Prod.fst (F.1 32 (1, 20) rfl rfl)) (F.2.1 4106 53 rfl rfl) ?_
                      refine x_iloadn (x := a1) rfl rfl ?_
                      refine x_iconst (v := 1) rfl ki_1 ?_
                      refine x_inv (N := m_X8_at) (As := [.int a1, .int 1]) (b := 53) (st := [.ref 98]) (d' := 98) (mc := 0) (ms := 0) (host := "") 8 rfl t_X8_at ⟨Or.inl q_4_98, i_X8_at.1, i_X8_at.2⟩ ⟨by decide, rfl⟩ (congrArg Prod.fst (F.1 53 (8, 4) rfl rfl)) rfl (by decide) rfl rfl ⟨by decide, by decide⟩ (jC.of rfl k_X8_at rfl ?_)
                      show jX m_X8_at 98 0 0 0 [(0, .ref 53), (1, .int a1), (2, .int 1)] [] _ 0 0 _
                      refine x_iloadn (x := a1) rfl rfl ?_
                      refine x_iflt (tgt := 24) rfl rfl (ti_lt (show (a1 : Int32).toInt = a1.toInt from rfl) (show (0 : Int32).toInt = 0 by decide) (br_f c3 ?_))
                      refine x_iloadn (x := a1) rfl rfl ?_
                      refine x_aloadn (x := 53) rfl rfl ?_
                      refine y_getI (v := 0) 8 3 rfl f_8_7 rfl (congrArg Prod.fst (F.1 53 (8, 4) rfl rfl)) (F.2.2.1 6787 0 rfl rfl) ?_
                      refine x_icge (tgt := 24) rfl rfl (ti_ge (show (a1 : Int32).toInt = a1.toInt from rfl) (show (0 : Int32).toInt = 0 by decide) (br_f c4 ?_))
                      refine x_iloadn (x := 1) rfl rfl ?_
                      refine x_iflt (tgt := 24) rfl rfl (br_f (by decide) ?_)
                      refine x_iloadn (x := 1) rfl rfl ?_
                      refine x_aloadn (x := 53) rfl rfl ?_
                      refine y_getI (v := 4) 8 0 rfl f_8_19 rfl (congrArg Prod.fst (F.1 53 (8, 4) rfl rfl)) (F.2.2.1 6784 4 rfl rfl) ?_
                      refine x_iclt (tgt := 26) rfl rfl (br_t (by decide) ?_)
                      refine x_aloadn (x := 53) rfl rfl ?_
                      refine x_getR (b := 54) 8 2 rfl f_8_25 rfl (congrArg Prod.fst (F.1 53 (8, 4) rfl rfl)) (F.2.1 6786 54 rfl rfl) ?_
                      refine x_iloadn (x := a1) rfl rfl ?_
                      refine x_aloadn (x := 53) rfl rfl ?_
                      refine y_getI (v := 4) 8 0 rfl f_8_19 rfl (congrArg Prod.fst (F.1 53 (8, 4) rfl rfl)) (F.2.2.1 6784 4 rfl rfl) ?_
                      refine x_imul rfl ?_
                      refine x_iloadn (x := 1) rfl rfl ?_
                      refine x_iadd rfl ?_
                      refine y_iald (v := 0) (N := 160) ((a1 * 4) + 1).toNatClampNeg rfl (F.1 54 (100, 160) rfl rfl) (vpi (by omega)) rfl (F.2.2.2.1 54 rfl rfl _).1 ?_
                      refine x_iret rfl rfl ?_
                      show jX m_X4_partOut 99 0 0 63 [(4, .int 0), (3, .int 0), (0, .ref 107), (1, .int a1), (2, .int a4)] [.int 0, .ref 98] _ 0 0 _
                      refine x_sipush (v := 366) rfl ks_366 ?_
                      refine y_imul (v := 0) rfl (by decide) ?_
                      refine x_iloadn (x := a4) rfl rfl ?_
                      refine x_inv (N := m_X0_turnTo) (As := [.int 0, .int a4]) (b := 98) (st := []) (d' := 98) (mc := 0) (ms := 0) (host := "") 0 rfl t_X0_turnTo ⟨Or.inl q_4_101, i_X0_turnTo.1, i_X0_turnTo.2⟩ ⟨by decide, rfl⟩ (congrArg Prod.fst (F.1 98 (0, 16) rfl rfl)) rfl (by decide) rfl rfl ⟨by decide, by decide⟩ (jC.of rfl k_X0_turnTo rfl ?_)
                      show jX m_X0_turnTo 98 0 0 0 [(0, .ref 98), (1, .int 0), (2, .int a4)] [] _ 0 0 _
                      refine x_aloadn (x := 98) rfl rfl ?_
                      refine x_iloadn (x := 0) rfl rfl ?_
                      refine x_iloadn (x := a4) rfl rfl ?_
                      refine x_inv (N := m_X0_readLaws) (As := [.int 0, .int a4]) (b := 98) (st := []) (d' := 97) (mc := 0) (ms := 0) (host := "") 0 rfl t_X0_readLaws ⟨Or.inl q_0_65, i_X0_readLaws.1, i_X0_readLaws.2⟩ ⟨by decide, rfl⟩ (congrArg Prod.fst (F.1 98 (0, 16) rfl rfl)) rfl (by decide) rfl rfl ⟨by decide, by decide⟩ (jC.of rfl k_X0_readLaws rfl ?_)
                      show jX m_X0_readLaws 97 0 0 0 [(0, .ref 98), (1, .int 0), (2, .int a4)] [] _ 0 0 _
                      refine x_aloadn (x := 98) rfl rfl ?_
                      refine x_iloadn (x := 0) rfl rfl ?_
                      refine x_putI 0 10 rfl f_0_37 rfl (jfin_no TX0 RX0 16 rfl rfl) (congrArg Prod.fst (F.1 98 (0, 16) rfl rfl)) rfl ?_
                      refine x_aloadn (x := 98) rfl rfl ?_
                      refine x_iloadn (x := a4) rfl rfl ?_
                      refine x_putI 0 11 rfl f_0_41 rfl (jfin_no TX0 RX0 16 rfl rfl) (congrArg Prod.fst (F.1 98 (0, 16) rfl rfl)) rfl ?_
                      refine x_aloadn (x := 98) rfl rfl ?_
                      refine x_getR (b := 101) 0 4 rfl f_0_18 rfl (congrArg Prod.fst (F.1 98 (0, 16) rfl rfl)) (F.2.1 12548 101 rfl rfl) ?_
                      refine x_aloadn (x := 98) rfl rfl ?_
                      refine y_getI (v := 0) 0 10 rfl f_0_37 rfl (congrArg Prod.fst (F.1 98 (0, 16) rfl rfl)) rfl ?_
                      refine x_aloadn (x := 98) rfl rfl ?_
                      refine y_getI (v := a4) 0 11 rfl f_0_41 rfl (congrArg Prod.fst (F.1 98 (0, 16) rfl rfl)) rfl ?_
                      refine x_aloadn (x := 98) rfl rfl ?_
                      refine x_getR (b := 32) 0 0 rfl f_0_57 rfl (congrArg Prod.fst (F.1 98 (0, 16) rfl rfl)) (F.2.1 12544 32 rfl rfl) ?_
                      refine y_getI (v := 1) 1 19 rfl f_0_81 rfl (congrArg Prod.fst (F.1 32 (1, 20) rfl rfl)) (F.2.2.1 4115 1 rfl rfl) ?_
                      refine x_inst (N := m_X11_isFresh) (As := [.ref 101, .int 0, .int a4, .int 1]) (st := []) (d' := 96) (mc := 0) (ms := 0) (host := "ParishChest") rfl t_X11_isFresh ⟨Or.inr q_0_84, s_X11_isFresh⟩ rfl (by decide) rfl rfl ⟨by decide, by decide⟩ (jC.of rfl k_X11_isFresh rfl ?_)
                      show jX m_X11_isFresh 96 0 0 0 [(0, .ref 101), (1, .int 0), (2, .int a4), (3, .int 1)] [] _ 0 0 _
                      refine x_aloadn (x := 101) rfl rfl ?_
                      refine y_alen (N := 3) (v := 3) rfl (F.1 101 (100, 3) rfl rfl) (by decide) (by decide) ?_
                      refine x_iconst (v := 3) rfl ki_3 ?_
                      refine x_icge (tgt := 8) rfl rfl (br_t (by decide) ?_)
                      refine x_aloadn (x := 101) rfl rfl ?_
                      refine x_iconst (v := 0) rfl ki_0 ?_
                      refine y_iald (v := 0) (N := 3) 0 rfl (F.1 101 (100, 3) rfl rfl) (jinb_of (by decide)) (by decide) (F.2.2.2.1 101 rfl rfl 0).1 ?_
                      refine x_iloadn (x := 0) rfl rfl ?_
                      refine x_icne (tgt := 33) rfl rfl (bn_f (by decide) ?_)
                      refine x_aloadn (x := 101) rfl rfl ?_
                      refine x_iconst (v := 1) rfl ki_1 ?_
                      refine y_iald (v := 0) (N := 3) 1 rfl (F.1 101 (100, 3) rfl rfl) (jinb_of (by decide)) (by decide) (F.2.2.2.1 101 rfl rfl 1).1 ?_
                      refine x_iloadn (x := a4) rfl rfl ?_
                      refine x_icne (tgt := 33) rfl rfl (ti_ne (show (0 : Int32).toInt = 0 by decide) (show (a4 : Int32).toInt = a4.toInt from rfl) (bn_f c9 ?_))
                      refine x_aloadn (x := 101) rfl rfl ?_
                      refine x_iconst (v := 2) rfl ki_2 ?_
                      refine y_iald (v := 0) (N := 3) 2 rfl (F.1 101 (100, 3) rfl rfl) (jinb_of (by decide)) (by decide) (F.2.2.2.1 101 rfl rfl 2).1 ?_
                      refine x_iloadn (x := 1) rfl rfl ?_
                      refine x_icne (tgt := 33) rfl rfl (bn_t (by decide) ?_)
                      refine x_iconst (v := 0) rfl ki_0 ?_
                      refine x_istore (ls' := [(4, .int 0), (0, .ref 101), (1, .int 0), (2, .int a4), (3, .int 1)]) rfl rfl rfl ?_
                      refine x_aloadn (x := 101) rfl rfl ?_
                      refine x_iconst (v := 0) rfl ki_0 ?_
                      refine x_iloadn (x := 0) rfl rfl ?_
                      refine y_iast (N := 3) 0 rfl (F.1 101 (100, 3) rfl rfl) rfl (jinb_of (by decide)) (by decide) ?_
                      refine x_aloadn (x := 101) rfl rfl ?_
                      refine x_iconst (v := 1) rfl ki_1 ?_
                      refine x_iloadn (x := a4) rfl rfl ?_
                      refine y_iast (N := 3) 1 rfl (F.1 101 (100, 3) rfl rfl) rfl (jinb_of (by decide)) (by decide) ?_
                      refine x_aloadn (x := 101) rfl rfl ?_
                      refine x_iconst (v := 2) rfl ki_2 ?_
                      refine x_iloadn (x := 1) rfl rfl ?_
                      refine y_iast (N := 3) 2 rfl (F.1 101 (100, 3) rfl rfl) rfl (jinb_of (by decide)) (by decide) ?_
                      refine x_iload (x := 0) rfl rfl ?_
                      refine x_zret rfl rfl (by first | decide | exact jp_01 _) ?_
                      show jX m_X0_readLaws 97 0 0 32 [(0, .ref 98), (1, .int 0), (2, .int a4)] [.int 0] _ 0 0 _
                      refine x_ifeq (tgt := 36) rfl rfl (br_t (by decide) ?_)
                      refine x_bipush (v := 30) rfl kb_30 ?_
                      refine x_aloadn (x := 98) rfl rfl ?_
                      refine x_getR (b := 32) 0 0 rfl f_0_57 rfl (congrArg Prod.fst (F.1 98 (0, 16) rfl rfl)) (F.2.1 12544 32 rfl rfl) ?_
                      refine y_getI (v := 0) 1 18 rfl f_0_72 rfl (congrArg Prod.fst (F.1 32 (1, 20) rfl rfl)) (F.2.2.1 4114 0 rfl rfl) ?_
                      refine x_inst (N := m_J9_min_7cf53) (As := [.int 30, .int 0]) (st := []) (d' := 96) (mc := 0) (ms := 0) (host := "") rfl t_J9_min_7cf53 ⟨Or.inl q_0_88, s_J9_min_7cf53⟩ rfl (by decide) rfl rfl ⟨by decide, by decide⟩ (jC.of rfl k_J9_min_7cf53 rfl ?_)
                      show jX m_J9_min_7cf53 96 0 0 0 [(0, .int 30), (1, .int 0)] [] _ 0 0 _
                      refine x_iloadn (x := 30) rfl rfl ?_
                      refine x_iloadn (x := 0) rfl rfl ?_
                      refine x_icgt (tgt := 9) rfl rfl (br_t (by decide) ?_)
                      refine x_iloadn (x := 0) rfl rfl ?_
                      refine x_iret rfl rfl ?_
                      show jX m_X0_readLaws 97 0 0 48 [(0, .ref 98), (1, .int 0), (2, .int a4)] [.int 0] _ 0 0 _
                      refine x_istoren (ls' := [(3, .int 0), (0, .ref 98), (1, .int 0), (2, .int a4)]) rfl rfl rfl ?_
                      refine x_iconst (v := 0) rfl ki_0 ?_
                      refine x_istore (ls' := [(4, .int 0), (3, .int 0), (0, .ref 98), (1, .int 0), (2, .int a4)]) rfl rfl rfl ?_
                      refine x_iload (x := 0) rfl rfl ?_
                      refine x_iloadn (x := 0) rfl rfl ?_
                      refine x_icge (tgt := 80) rfl rfl (br_t (by decide) ?_)
                      refine x_iloadn (x := 0) rfl rfl ?_
                      refine x_iconst (v := 1) rfl ki_1 ?_
                      refine y_isub (v := (-1)) rfl (by decide) ?_
                      refine x_istore (ls' := [(4, .int (-1)), (3, .int 0), (0, .ref 98), (1, .int 0), (2, .int a4)]) rfl rfl rfl ?_
                      refine x_iload (x := (-1)) rfl rfl ?_
                      refine x_iflt (tgt := 167) rfl rfl (br_t (by decide) ?_)
                      refine x_vret rfl rfl ?_
                      show jX m_X0_turnTo 98 0 0 6 [(0, .ref 98), (1, .int 0), (2, .int a4)] [] _ 0 0 _
                      refine x_aloadn (x := 98) rfl rfl ?_
                      refine x_iloadn (x := 0) rfl rfl ?_
                      refine x_iloadn (x := a4) rfl rfl ?_
                      refine x_inv (N := m_X0_readHouses) (As := [.int 0, .int a4]) (b := 98) (st := []) (d' := 97) (mc := 0) (ms := 0) (host := "") 0 rfl t_X0_readHouses ⟨Or.inl q_0_69, i_X0_readHouses.1, i_X0_readHouses.2⟩ ⟨by decide, rfl⟩ (congrArg Prod.fst (F.1 98 (0, 16) rfl rfl)) rfl (by decide) rfl rfl ⟨by decide, by decide⟩ (jC.of rfl k_X0_readHouses rfl ?_)
                      show jX m_X0_readHouses 97 0 0 0 [(0, .ref 98), (1, .int 0), (2, .int a4)] [] _ 0 0 _
                      refine x_aloadn (x := 98) rfl rfl ?_
                      refine x_iloadn (x := 0) rfl rfl ?_
                      refine x_putI 0 10 rfl f_0_37 rfl (jfin_no TX0 RX0 16 rfl rfl) (congrArg Prod.fst (F.1 98 (0, 16) rfl rfl)) rfl ?_
                      refine x_aloadn (x := 98) rfl rfl ?_
                      refine x_iloadn (x := a4) rfl rfl ?_
                      refine x_putI 0 11 rfl f_0_41 rfl (jfin_no TX0 RX0 16 rfl rfl) (congrArg Prod.fst (F.1 98 (0, 16) rfl rfl)) rfl ?_
                      refine x_aloadn (x := 98) rfl rfl ?_
                      refine x_getR (b := 105) 0 8 rfl f_0_30 rfl (congrArg Prod.fst (F.1 98 (0, 16) rfl rfl)) (F.2.1 12552 105 rfl rfl) ?_
                      refine x_aloadn (x := 98) rfl rfl ?_
                      refine y_getI (v := 0) 0 10 rfl f_0_37 rfl (congrArg Prod.fst (F.1 98 (0, 16) rfl rfl)) rfl ?_
                      refine x_aloadn (x := 98) rfl rfl ?_
                      refine y_getI (v := a4) 0 11 rfl f_0_41 rfl (congrArg Prod.fst (F.1 98 (0, 16) rfl rfl)) rfl ?_
                      refine x_aloadn (x := 98) rfl rfl ?_
                      refine x_getR (b := 32) 0 0 rfl f_0_57 rfl (congrArg Prod.fst (F.1 98 (0, 16) rfl rfl)) (F.2.1 12544 32 rfl rfl) ?_
                      refine y_getI (v := 1) 1 19 rfl f_0_81 rfl (congrArg Prod.fst (F.1 32 (1, 20) rfl rfl)) (F.2.2.1 4115 1 rfl rfl) ?_
                      refine x_inst (N := m_X11_isFresh) (As := [.ref 105, .int 0, .int a4, .int 1]) (st := []) (d' := 96) (mc := 0) (ms := 0) (host := "ParishChest") rfl t_X11_isFresh ⟨Or.inr q_0_84, s_X11_isFresh⟩ rfl (by decide) rfl rfl ⟨by decide, by decide⟩ (jC.of rfl k_X11_isFresh rfl ?_)
                      show jX m_X11_isFresh 96 0 0 0 [(0, .ref 105), (1, .int 0), (2, .int a4), (3, .int 1)] [] _ 0 0 _
                      refine x_aloadn (x := 105) rfl rfl ?_
                      refine y_alen (N := 3) (v := 3) rfl (F.1 105 (100, 3) rfl rfl) (by decide) (by decide) ?_
                      refine x_iconst (v := 3) rfl ki_3 ?_
                      refine x_icge (tgt := 8) rfl rfl (br_t (by decide) ?_)
                      refine x_aloadn (x := 105) rfl rfl ?_
                      refine x_iconst (v := 0) rfl ki_0 ?_
                      refine y_iald (v := 0) (N := 3) 0 rfl (F.1 105 (100, 3) rfl rfl) (jinb_of (by decide)) (by decide) (F.2.2.2.1 105 rfl rfl 0).1 ?_
                      refine x_iloadn (x := 0) rfl rfl ?_
                      refine x_icne (tgt := 33) rfl rfl (bn_f (by decide) ?_)
                      refine x_aloadn (x := 105) rfl rfl ?_
                      refine x_iconst (v := 1) rfl ki_1 ?_
                      refine y_iald (v := 0) (N := 3) 1 rfl (F.1 105 (100, 3) rfl rfl) (jinb_of (by decide)) (by decide) (F.2.2.2.1 105 rfl rfl 1).1 ?_
                      refine x_iloadn (x := a4) rfl rfl ?_
                      refine x_icne (tgt := 33) rfl rfl (ti_ne (show (0 : Int32).toInt = 0 by decide) (show (a4 : Int32).toInt = a4.toInt from rfl) (bn_f c9 ?_))
                      refine x_aloadn (x := 105) rfl rfl ?_
                      refine x_iconst (v := 2) rfl ki_2 ?_
                      refine y_iald (v := 0) (N := 3) 2 rfl (F.1 105 (100, 3) rfl rfl) (jinb_of (by decide)) (by decide) (F.2.2.2.1 105 rfl rfl 2).1 ?_
                      refine x_iloadn (x := 1) rfl rfl ?_
                      refine x_icne (tgt := 33) rfl rfl (bn_t (by decide) ?_)
                      refine x_iconst (v := 0) rfl ki_0 ?_
                      refine x_istore (ls' := [(4, .int 0), (0, .ref 105), (1, .int 0), (2, .int a4), (3, .int 1)]) rfl rfl rfl ?_
                      refine x_aloadn (x := 105) rfl rfl ?_
                      refine x_iconst (v := 0) rfl ki_0 ?_
                      refine x_iloadn (x := 0) rfl rfl ?_
                      refine y_iast (N := 3) 0 rfl (F.1 105 (100, 3) rfl rfl) rfl (jinb_of (by decide)) (by decide) ?_
                      refine x_aloadn (x := 105) rfl rfl ?_
                      refine x_iconst (v := 1) rfl ki_1 ?_
                      refine x_iloadn (x := a4) rfl rfl ?_
                      refine y_iast (N := 3) 1 rfl (F.1 105 (100, 3) rfl rfl) rfl (jinb_of (by decide)) (by decide) ?_
                      refine x_aloadn (x := 105) rfl rfl ?_
                      refine x_iconst (v := 2) rfl ki_2 ?_
                      refine x_iloadn (x := 1) rfl rfl ?_
                      refine y_iast (N := 3) 2 rfl (F.1 105 (100, 3) rfl rfl) rfl (jinb_of (by decide)) (by decide) ?_
                      refine x_iload (x := 0) rfl rfl ?_
                      refine x_zret rfl rfl (by first | decide | exact jp_01 _) ?_
                      show jX m_X0_readHouses 97 0 0 32 [(0, .ref 98), (1, .int 0), (2, .int a4)] [.int 0] _ 0 0 _
                      refine x_ifeq (tgt := 36) rfl rfl (br_t (by decide) ?_)
                      refine x_bipush (v := 40) rfl kb_40 ?_
                      refine x_aloadn (x := 98) rfl rfl ?_
                      refine x_getR (b := 32) 0 0 rfl f_0_57 rfl (congrArg Prod.fst (F.1 98 (0, 16) rfl rfl)) (F.2.1 12544 32 rfl rfl) ?_
                      refine x_getR (b := 49) 1 8 rfl f_0_120 rfl (congrArg Prod.fst (F.1 32 (1, 20) rfl rfl)) (F.2.1 4104 49 rfl rfl) ?_
                      refine y_getI (v := 0) 8 3 rfl f_0_124 rfl (congrArg Prod.fst (F.1 49 (8, 4) rfl rfl)) (F.2.2.1 6275 0 rfl rfl) ?_
                      refine x_inst (N := m_J9_min_7cf53) (As := [.int 40, .int 0]) (st := []) (d' := 96) (mc := 0) (ms := 0) (host := "") rfl t_J9_min_7cf53 ⟨Or.inl q_0_88, s_J9_min_7cf53⟩ rfl (by decide) rfl rfl ⟨by decide, by decide⟩ (jC.of rfl k_J9_min_7cf53 rfl ?_)
                      show jX m_J9_min_7cf53 96 0 0 0 [(0, .int 40), (1, .int 0)] [] _ 0 0 _
                      refine x_iloadn (x := 40) rfl rfl ?_
                      refine x_iloadn (x := 0) rfl rfl ?_
                      refine x_icgt (tgt := 9) rfl rfl (br_t (by decide) ?_)
                      refine x_iloadn (x := 0) rfl rfl ?_
                      refine x_iret rfl rfl ?_
                      show jX m_X0_readHouses 97 0 0 51 [(0, .ref 98), (1, .int 0), (2, .int a4)] [.int 0] _ 0 0 _
                      refine x_istoren (ls' := [(3, .int 0), (0, .ref 98), (1, .int 0), (2, .int a4)]) rfl rfl rfl ?_
                      refine x_aloadn (x := 98) rfl rfl ?_
                      refine x_aloadn (x := 98) rfl rfl ?_
                      refine x_getR (b := 32) 0 0 rfl f_0_57 rfl (congrArg Prod.fst (F.1 98 (0, 16) rfl rfl)) (F.2.1 12544 32 rfl rfl) ?_
                      refine x_getR (b := 47) 1 7 rfl f_0_129 rfl (congrArg Prod.fst (F.1 32 (1, 20) rfl rfl)) (F.2.1 4103 47 rfl rfl) ?_
                      refine x_iconst (v := 3) rfl ki_3 ?_
                      refine x_aloadn (x := 98) rfl rfl ?_
                      refine x_getR (b := 102) 0 5 rfl f_0_21 rfl (congrArg Prod.fst (F.1 98 (0, 16) rfl rfl)) (F.2.1 12549 102 rfl rfl) ?_
                      refine x_iconst (v := 0) rfl ki_0 ?_
                      refine x_inv (N := m_X0_readLatest) (As := [.ref 47, .int 3, .ref 102, .int 0]) (b := 98) (st := []) (d' := 96) (mc := 0) (ms := 0) (host := "") 0 rfl t_X0_readLatest ⟨Or.inl q_0_132, i_X0_readLatest.1, i_X0_readLatest.2⟩ ⟨by decide, rfl⟩ (congrArg Prod.fst (F.1 98 (0, 16) rfl rfl)) rfl (by decide) rfl rfl ⟨by decide, by decide⟩ (jC.of rfl k_X0_readLatest rfl ?_)
                      show jX m_X0_readLatest 96 0 0 0 [(0, .ref 98), (1, .ref 47), (2, .int 3), (3, .ref 102), (4, .int 0)] [] _ 0 0 _
                      refine x_iconst (v := 0) rfl ki_0 ?_
                      refine x_istore (ls' := [(5, .int 0), (0, .ref 98), (1, .ref 47), (2, .int 3), (3, .ref 102), (4, .int 0)]) rfl rfl rfl ?_
                      refine x_iload (x := 0) rfl rfl ?_
                      refine x_bipush (v := 40) rfl kb_40 ?_
                      refine x_icge (tgt := 52) rfl rfl (br_f (by decide) ?_)
                      refine x_iload (x := 0) rfl rfl ?_
                      refine x_aloadn (x := 98) rfl rfl ?_
                      refine x_getR (b := 32) 0 0 rfl f_0_57 rfl (congrArg Prod.fst (F.1 98 (0, 16) rfl rfl)) (F.2.1 12544 32 rfl rfl) ?_
                      refine x_getR (b := 49) 1 8 rfl f_0_120 rfl (congrArg Prod.fst (F.1 32 (1, 20) rfl rfl)) (F.2.1 4104 49 rfl rfl) ?_
                      refine y_getI (v := 0) 8 3 rfl f_0_124 rfl (congrArg Prod.fst (F.1 49 (8, 4) rfl rfl)) (F.2.2.1 6275 0 rfl rfl) ?_
                      refine x_icge (tgt := 52) rfl rfl (br_t (by decide) ?_)
                      refine x_iconst (v := 0) rfl ki_0 ?_
                      refine x_istore (ls' := [(5, .int 0), (0, .ref 98), (1, .ref 47), (2, .int 3), (3, .ref 102), (4, .int 0)]) rfl rfl rfl ?_
                      refine x_iload (x := 0) rfl rfl ?_
                      refine x_aloadn (x := 47) rfl rfl ?_
                      refine y_getI (v := 0) 8 3 rfl f_0_124 rfl (congrArg Prod.fst (F.1 47 (8, 4) rfl rfl)) (F.2.2.1 6019 0 rfl rfl) ?_
                      refine x_icge (tgt := 161) rfl rfl (br_t (by decide) ?_)
                      refine x_vret rfl rfl ?_
                      show jX m_X0_readHouses 97 0 0 69 [(3, .int 0), (0, .ref 98), (1, .int 0), (2, .int a4)] [] _ 0 0 _
                      refine x_aloadn (x := 98) rfl rfl ?_
                      refine x_aloadn (x := 98) rfl rfl ?_
                      refine x_getR (b := 32) 0 0 rfl f_0_57 rfl (congrArg Prod.fst (F.1 98 (0, 16) rfl rfl)) (F.2.1 12544 32 rfl rfl) ?_
                      refine x_getR (b := 51) 1 9 rfl f_0_136 rfl (congrArg Prod.fst (F.1 32 (1, 20) rfl rfl)) (F.2.1 4105 51 rfl rfl) ?_
                      refine x_iconst (v := 3) rfl ki_3 ?_
                      refine x_aloadn (x := 98) rfl rfl ?_
                      refine x_getR (b := 103) 0 6 rfl f_0_24 rfl (congrArg Prod.fst (F.1 98 (0, 16) rfl rfl)) (F.2.1 12550 103 rfl rfl) ?_
                      refine x_iconst (v := (-1)) rfl ki_m1 ?_
                      refine x_inv (N := m_X0_readLatest) (As := [.ref 51, .int 3, .ref 103, .int (-1)]) (b := 98) (st := []) (d' := 96) (mc := 0) (ms := 0) (host := "") 0 rfl t_X0_readLatest ⟨Or.inl q_0_132, i_X0_readLatest.1, i_X0_readLatest.2⟩ ⟨by decide, rfl⟩ (congrArg Prod.fst (F.1 98 (0, 16) rfl rfl)) rfl (by decide) rfl rfl ⟨by decide, by decide⟩ (jC.of rfl k_X0_readLatest rfl ?_)
                      show jX m_X0_readLatest 96 0 0 0 [(0, .ref 98), (1, .ref 51), (2, .int 3), (3, .ref 103), (4, .int (-1))] [] _ 0 0 _
                      refine x_iconst (v := 0) rfl ki_0 ?_
                      refine x_istore (ls' := [(5, .int 0), (0, .ref 98), (1, .ref 51), (2, .int 3), (3, .ref 103), (4, .int (-1))]) rfl rfl rfl ?_
                      refine x_iload (x := 0) rfl rfl ?_
                      refine x_bipush (v := 40) rfl kb_40 ?_
                      refine x_icge (tgt := 52) rfl rfl (br_f (by decide) ?_)
                      refine x_iload (x := 0) rfl rfl ?_
                      refine x_aloadn (x := 98) rfl rfl ?_
                      refine x_getR (b := 32) 0 0 rfl f_0_57 rfl (congrArg Prod.fst (F.1 98 (0, 16) rfl rfl)) (F.2.1 12544 32 rfl rfl) ?_
                      refine x_getR (b := 49) 1 8 rfl f_0_120 rfl (congrArg Prod.fst (F.1 32 (1, 20) rfl rfl)) (F.2.1 4104 49 rfl rfl) ?_
                      refine y_getI (v := 0) 8 3 rfl f_0_124 rfl (congrArg Prod.fst (F.1 49 (8, 4) rfl rfl)) (F.2.2.1 6275 0 rfl rfl) ?_
                      refine x_icge (tgt := 52) rfl rfl (br_t (by decide) ?_)
                      refine x_iconst (v := 0) rfl ki_0 ?_
                      refine x_istore (ls' := [(5, .int 0), (0, .ref 98), (1, .ref 51), (2, .int 3), (3, .ref 103), (4, .int (-1))]) rfl rfl rfl ?_
                      refine x_iload (x := 0) rfl rfl ?_
                      refine x_aloadn (x := 51) rfl rfl ?_
                      refine y_getI (v := 0) 8 3 rfl f_0_124 rfl (congrArg Prod.fst (F.1 51 (8, 4) rfl rfl)) (F.2.2.1 6531 0 rfl rfl) ?_
                      refine x_icge (tgt := 161) rfl rfl (br_t (by decide) ?_)
                      refine x_vret rfl rfl ?_
                      show jX m_X0_readHouses 97 0 0 86 [(3, .int 0), (0, .ref 98), (1, .int 0), (2, .int a4)] [] _ 0 0 _
                      refine x_iconst (v := 0) rfl ki_0 ?_
                      refine x_istore (ls' := [(4, .int 0), (3, .int 0), (0, .ref 98), (1, .int 0), (2, .int a4)]) rfl rfl rfl ?_
                      refine x_iload (x := 0) rfl rfl ?_
                      refine x_iloadn (x := 0) rfl rfl ?_
                      refine x_icge (tgt := 172) rfl rfl (br_t (by decide) ?_)
                      refine x_vret rfl rfl ?_
                      show jX m_X0_turnTo 98 0 0 12 [(0, .ref 98), (1, .int 0), (2, .int a4)] [] _ 0 0 _
                      refine x_vret rfl rfl ?_
                      show jX m_X4_partOut 99 0 0 71 [(4, .int 0), (3, .int 0), (0, .ref 107), (1, .int a1), (2, .int a4)] [] _ 0 0 _
                      refine x_lconst (v := 0) rfl kl_0 ?_
                      refine x_lstore (ls' := [(5, .long 0), (4, .int 0), (3, .int 0), (0, .ref 107), (1, .int a1), (2, .int a4)]) rfl rfl rfl ?_
                      refine x_iconst (v := 0) rfl ki_0 ?_
                      refine x_istore (ls' := [(7, .int 0), (5, .long 0), (4, .int 0), (3, .int 0), (0, .ref 107), (1, .int a1), (2, .int a4)]) rfl rfl rfl ?_
                      refine x_iload (x := 0) rfl rfl ?_
                      refine x_aloadn (x := 107) rfl rfl ?_
                      refine x_inv (N := m_X4_houses) (As := []) (b := 107) (st := [.int 0]) (d' := 98) (mc := 0) (ms := 0) (host := "") 4 rfl t_X4_houses ⟨Or.inl q_4_107, i_X4_houses.1, i_X4_houses.2⟩ ⟨by decide, rfl⟩ (congrArg Prod.fst (F.1 107 (4, 18) rfl rfl)) rfl (by decide) rfl rfl ⟨by decide, by decide⟩ (jC.of rfl k_X4_houses rfl ?_)
                      show jX m_X4_houses 98 0 0 0 [(0, .ref 107)] [] _ 0 0 _
                      refine x_bipush (v := 40) rfl kb_40 ?_
                      refine x_aloadn (x := 107) rfl rfl ?_
                      refine x_getR (b := 32) 4 0 rfl f_4_59 rfl (congrArg Prod.fst (F.1 107 (4, 18) rfl rfl)) (F.2.1 13696 32 rfl rfl) ?_
                      refine x_getR (b := 49) 1 8 rfl f_4_71 rfl (congrArg Prod.fst (F.1 32 (1, 20) rfl rfl)) (F.2.1 4104 49 rfl rfl) ?_
                      refine y_getI (v := 0) 8 3 rfl f_4_77 rfl (congrArg Prod.fst (F.1 49 (8, 4) rfl rfl)) (F.2.2.1 6275 0 rfl rfl) ?_
                      refine x_inst (N := m_J9_min_7cf53) (As := [.int 40, .int 0]) (st := []) (d' := 97) (mc := 0) (ms := 0) (host := "") rfl t_J9_min_7cf53 ⟨Or.inl q_4_82, s_J9_min_7cf53⟩ rfl (by decide) rfl rfl ⟨by decide, by decide⟩ (jC.of rfl k_J9_min_7cf53 rfl ?_)
                      show jX m_J9_min_7cf53 97 0 0 0 [(0, .int 40), (1, .int 0)] [] _ 0 0 _
                      refine x_iloadn (x := 40) rfl rfl ?_
                      refine x_iloadn (x := 0) rfl rfl ?_
                      refine x_icgt (tgt := 9) rfl rfl (br_t (by decide) ?_)
                      refine x_iloadn (x := 0) rfl rfl ?_
                      refine x_iret rfl rfl ?_
                      show jX m_X4_houses 98 0 0 15 [(0, .ref 107)] [.int 0] _ 0 0 _
                      refine x_iret rfl rfl ?_
                      show jX m_X4_partOut 99 0 0 83 [(7, .int 0), (5, .long 0), (4, .int 0), (3, .int 0), (0, .ref 107), (1, .int a1), (2, .int a4)] [.int 0, .int 0] _ 0 0 _
                      refine x_icge (tgt := 187) rfl rfl (br_t (by decide) ?_)
                      refine x_aloadn (x := 107) rfl rfl ?_
                      refine x_iload (x := 0) rfl rfl ?_
                      refine x_lload (x := 0) rfl rfl ?_
                      refine x_inv (N := m_X4_share) (As := [.int 0, .long 0]) (b := 107) (st := []) (d' := 98) (mc := 0) (ms := 0) (host := "") 4 rfl t_X4_share ⟨Or.inl q_4_123, i_X4_share.1, i_X4_share.2⟩ ⟨by decide, rfl⟩ (congrArg Prod.fst (F.1 107 (4, 18) rfl rfl)) rfl (by decide) rfl rfl ⟨by decide, by decide⟩ (jC.of rfl k_X4_share rfl ?_)
                      show jX m_X4_share 98 0 0 0 [(0, .ref 107), (1, .int 0), (2, .long 0)] [] _ 0 0 _
                      refine x_lloadn (x := 0) rfl rfl ?_
                      refine x_lconst (v := 0) rfl kl_0 ?_
                      refine y_lcmp (v := 0) rfl (by decide) ?_
                      refine x_ifne (tgt := 10) rfl rfl (bn_f (by decide) ?_)
                      refine x_lconst (v := 0) rfl kl_0 ?_
                      refine x_goto (tgt := 12) rfl rfl ?_
                      refine x_lstore (ls' := [(4, .long 0), (0, .ref 107), (1, .int 0), (2, .long 0)]) rfl rfl rfl ?_
                      refine x_iconst (v := 0) rfl ki_0 ?_
                      refine x_istore (ls' := [(6, .int 0), (4, .long 0), (0, .ref 107), (1, .int 0), (2, .long 0)]) rfl rfl rfl ?_
                      refine x_iload (x := 0) rfl rfl ?_
                      refine x_aloadn (x := 107) rfl rfl ?_
                      refine x_inv (N := m_X4_houses) (As := []) (b := 107) (st := [.int 0]) (d' := 97) (mc := 0) (ms := 0) (host := "") 4 rfl t_X4_houses ⟨Or.inl q_4_107, i_X4_houses.1, i_X4_houses.2⟩ ⟨by decide, rfl⟩ (congrArg Prod.fst (F.1 107 (4, 18) rfl rfl)) rfl (by decide) rfl rfl ⟨by decide, by decide⟩ (jC.of rfl k_X4_houses rfl ?_)
                      show jX m_X4_houses 97 0 0 0 [(0, .ref 107)] [] _ 0 0 _
                      refine x_bipush (v := 40) rfl kb_40 ?_
                      refine x_aloadn (x := 107) rfl rfl ?_
                      refine x_getR (b := 32) 4 0 rfl f_4_59 rfl (congrArg Prod.fst (F.1 107 (4, 18) rfl rfl)) (F.2.1 13696 32 rfl rfl) ?_
                      refine x_getR (b := 49) 1 8 rfl f_4_71 rfl (congrArg Prod.fst (F.1 32 (1, 20) rfl rfl)) (F.2.1 4104 49 rfl rfl) ?_
                      refine y_getI (v := 0) 8 3 rfl f_4_77 rfl (congrArg Prod.fst (F.1 49 (8, 4) rfl rfl)) (F.2.2.1 6275 0 rfl rfl) ?_
                      refine x_inst (N := m_J9_min_7cf53) (As := [.int 40, .int 0]) (st := []) (d' := 96) (mc := 0) (ms := 0) (host := "") rfl t_J9_min_7cf53 ⟨Or.inl q_4_82, s_J9_min_7cf53⟩ rfl (by decide) rfl rfl ⟨by decide, by decide⟩ (jC.of rfl k_J9_min_7cf53 rfl ?_)
                      show jX m_J9_min_7cf53 96 0 0 0 [(0, .int 40), (1, .int 0)] [] _ 0 0 _
                      refine x_iloadn (x := 40) rfl rfl ?_
                      refine x_iloadn (x := 0) rfl rfl ?_
                      refine x_icgt (tgt := 9) rfl rfl (br_t (by decide) ?_)
                      refine x_iloadn (x := 0) rfl rfl ?_
                      refine x_iret rfl rfl ?_
                      show jX m_X4_houses 97 0 0 15 [(0, .ref 107)] [.int 0] _ 0 0 _
                      refine x_iret rfl rfl ?_
                      show jX m_X4_share 98 0 0 23 [(6, .int 0), (4, .long 0), (0, .ref 107), (1, .int 0), (2, .long 0)] [.int 0, .int 0] _ 0 0 _
                      refine x_icge (tgt := 113) rfl rfl (br_t (by decide) ?_)
                      refine x_iconst (v := 0) rfl ki_0 ?_
                      refine x_istore (ls' := [(6, .int 0), (4, .long 0), (0, .ref 107), (1, .int 0), (2, .long 0)]) rfl rfl rfl ?_
                      refine x_iload (x := 0) rfl rfl ?_
                      refine x_bipush (v := 40) rfl kb_40 ?_
                      refine x_icge (tgt := 175) rfl rfl (br_f (by decide) ?_)
                      refine x_lload (x := 0) rfl rfl ?_
                      refine x_lconst (v := 0) rfl kl_0 ?_
                      refine y_lcmp (v := 0) rfl (by decide) ?_
                      refine x_ifle (tgt := 175) rfl rfl (br_t (by decide) ?_)
                      refine x_vret rfl rfl ?_
                      show jX m_X4_partOut 99 0 0 195 [(7, .int 0), (5, .long 0), (4, .int 0), (3, .int 0), (0, .ref 107), (1, .int a1), (2, .int a4)] [] _ 0 0 _
                      refine x_iconst (v := 0) rfl ki_0 ?_
                      refine x_istore (ls' := [(7, .int 0), (5, .long 0), (4, .int 0), (3, .int 0), (0, .ref 107), (1, .int a1), (2, .int a4)]) rfl rfl rfl ?_
                      refine x_iload (x := 0) rfl rfl ?_
                      refine x_aloadn (x := 107) rfl rfl ?_
                      refine x_inv (N := m_X4_houses) (As := []) (b := 107) (st := [.int 0]) (d' := 98) (mc := 0) (ms := 0) (host := "") 4 rfl t_X4_houses ⟨Or.inl q_4_107, i_X4_houses.1, i_X4_houses.2⟩ ⟨by decide, rfl⟩ (congrArg Prod.fst (F.1 107 (4, 18) rfl rfl)) rfl (by decide) rfl rfl ⟨by decide, by decide⟩ (jC.of rfl k_X4_houses rfl ?_)
                      show jX m_X4_houses 98 0 0 0 [(0, .ref 107)] [] _ 0 0 _
                      refine x_bipush (v := 40) rfl kb_40 ?_
                      refine x_aloadn (x := 107) rfl rfl ?_
                      refine x_getR (b := 32) 4 0 rfl f_4_59 rfl (congrArg Prod.fst (F.1 107 (4, 18) rfl rfl)) (F.2.1 13696 32 rfl rfl) ?_
                      refine x_getR (b := 49) 1 8 rfl f_4_71 rfl (congrArg Prod.fst (F.1 32 (1, 20) rfl rfl)) (F.2.1 4104 49 rfl rfl) ?_
                      refine y_getI (v := 0) 8 3 rfl f_4_77 rfl (congrArg Prod.fst (F.1 49 (8, 4) rfl rfl)) (F.2.2.1 6275 0 rfl rfl) ?_
                      refine x_inst (N := m_J9_min_7cf53) (As := [.int 40, .int 0]) (st := []) (d' := 97) (mc := 0) (ms := 0) (host := "") rfl t_J9_min_7cf53 ⟨Or.inl q_4_82, s_J9_min_7cf53⟩ rfl (by decide) rfl rfl ⟨by decide, by decide⟩ (jC.of rfl k_J9_min_7cf53 rfl ?_)
                      show jX m_J9_min_7cf53 97 0 0 0 [(0, .int 40), (1, .int 0)] [] _ 0 0 _
                      refine x_iloadn (x := 40) rfl rfl ?_
                      refine x_iloadn (x := 0) rfl rfl ?_
                      refine x_icgt (tgt := 9) rfl rfl (br_t (by decide) ?_)
                      refine x_iloadn (x := 0) rfl rfl ?_
                      refine x_iret rfl rfl ?_
                      show jX m_X4_houses 98 0 0 15 [(0, .ref 107)] [.int 0] _ 0 0 _
                      refine x_iret rfl rfl ?_
                      show jX m_X4_partOut 99 0 0 204 [(7, .int 0), (5, .long 0), (4, .int 0), (3, .int 0), (0, .ref 107), (1, .int a1), (2, .int a4)] [.int 0, .int 0] _ 0 0 _
                      refine x_icge (tgt := 275) rfl rfl (br_t (by decide) ?_)
                      refine x_vret rfl rfl ?_
                      show jX m_X11_arrear 100 0 0 62 [(0, .ref 31), (1, .int a1), (2, .int a2), (3, .int a3), (4, .int a4)] [] _ 0 0 _
                      refine x_aloadn (x := 31) rfl rfl ?_
                      refine x_getR (b := 107) 11 8 rfl f_11_75 rfl (congrArg Prod.fst (F.1 31 (11, 13) rfl rfl)) (F.2.1 3976 107 rfl rfl) ?_
                      refine x_getR (b := 108) 4 3 rfl f_11_449 rfl (congrArg Prod.fst (F.1 107 (4, 18) rfl rfl)) (F.2.1 13699 108 rfl rfl) ?_
                      refine x_iloadn (x := a2) rfl rfl ?_
                      refine y_iald (v := 0) (N := 40) a2.toNatClampNeg rfl (F.1 108 (100, 40) rfl rfl) (vpi (by omega)) rfl (F.2.2.2.1 108 rfl rfl _).1 ?_
                      refine x_istore (ls' := [(5, .int 0), (0, .ref 31), (1, .int a1), (2, .int a2), (3, .int a3), (4, .int a4)]) rfl rfl rfl ?_
                      refine x_iconst (v := 0) rfl ki_0 ?_
                      refine x_istore (ls' := [(6, .int 0), (5, .int 0), (0, .ref 31), (1, .int a1), (2, .int a2), (3, .int a3), (4, .int a4)]) rfl rfl rfl ?_
                      refine x_iload (x := 0) rfl rfl ?_
                      refine x_aloadn (x := 31) rfl rfl ?_
                      refine x_getR (b := 32) 11 0 rfl f_11_10 rfl (congrArg Prod.fst (F.1 31 (11, 13) rfl rfl)) (F.2.1 3968 32 rfl rfl) ?_
                      refine x_getR (b := 55) 1 11 rfl f_11_452 rfl (congrArg Prod.fst (F.1 32 (1, 20) rfl rfl)) (F.2.1 4107 55 rfl rfl) ?_
                      refine y_getI (v := 0) 8 3 rfl f_11_142 rfl (congrArg Prod.fst (F.1 55 (8, 4) rfl rfl)) (F.2.2.1 7043 0 rfl rfl) ?_
                      refine x_icge (tgt := 183) rfl rfl (br_t (by decide) ?_)
                      refine x_iload (x := 0) rfl rfl ?_
                      refine x_iret rfl rfl ?_
                      exact jqe (show sp_arrear a1 a2 a3 a4 = 0 by unfold sp_arrear; (repeat' split) <;> first | rfl | (exfalso; omega)) (hQ _ (by repeat (first | exact FM | refine jFb_si rfl ?_ | refine jFb_sl rfl ?_ | refine jFb_ci rfl ?_ | refine jFb_cl rfl ?_ | refine jFb_sr rfl ?_)) (by repeat (first | exact O | refine jOl_si rfl ?_ | refine jOl_sl rfl ?_ | refine jOl_ci rfl ?_ | refine jOl_cl rfl ?_ | refine jOl_sr rfl ?_)))
                    ·
                      refine x_aloadn (x := 111) rfl rfl ?_
                      refine x_iconst (v := 1) rfl ki_1 ?_
                      refine y_iald (v := 0) (N := 3) 1 rfl (F.1 111 (100, 3) rfl rfl) (jinb_of (by decide)) (by decide) (F.2.2.2.1 111 rfl rfl 1).1 ?_
                      refine x_iloadn (x := a4) rfl rfl ?_
                      refine x_icne (tgt := 33) rfl rfl (ti_ne (show (0 : Int32).toInt = 0 by decide) (show (a4 : Int32).toInt = a4.toInt from rfl) (bn_f c9 ?_))
                      refine x_aloadn (x := 111) rfl rfl ?_
                      refine x_iconst (v := 2) rfl ki_2 ?_
                      refine y_iald (v := 0) (N := 3) 2 rfl (F.1 111 (100, 3) rfl rfl) (jinb_of (by decide)) (by decide) (F.2.2.2.1 111 rfl rfl 2).1 ?_
                      refine x_iloadn (x := 1) rfl rfl ?_
                      refine x_icne (tgt := 33) rfl rfl (bn_t (by decide) ?_)
                      refine x_iconst (v := 0) rfl ki_0 ?_
                      refine x_istore (ls' := [(4, .int 0), (0, .ref 111), (1, .int a1), (2, .int a4), (3, .int 1)]) rfl rfl rfl ?_
                      refine x_aloadn (x := 111) rfl rfl ?_
                      refine x_iconst (v := 0) rfl ki_0 ?_
                      refine x_iloadn (x := a1) rfl rfl ?_
                      refine y_iast (N := 3) 0 rfl (F.1 111 (100, 3) rfl rfl) rfl (jinb_of (by decide)) (by decide) ?_
                      refine x_aloadn (x := 111) rfl rfl ?_
                      refine x_iconst (v := 1) rfl ki_1 ?_
                      refine x_iloadn (x := a4) rfl rfl ?_
                      refine y_iast (N := 3) 1 rfl (F.1 111 (100, 3) rfl rfl) rfl (jinb_of (by decide)) (by decide) ?_
                      refine x_aloadn (x := 111) rfl rfl ?_
                      refine x_iconst (v := 2) rfl ki_2 ?_
                      refine x_iloadn (x := 1) rfl rfl ?_
                      refine y_iast (N := 3) 2 rfl (F.1 111 (100, 3) rfl rfl) rfl (jinb_of (by decide)) (by decide) ?_
                      refine x_iload (x := 0) rfl rfl ?_
                      refine x_zret rfl rfl (by first | decide | exact jp_01 _) ?_
                      show jX m_X4_partOut 99 0 0 16 [(0, .ref 107), (1, .int a1), (2, .int a4)] [.int 0] _ 0 0 _
                      refine x_ifeq (tgt := 20) rfl rfl (br_t (by decide) ?_)
                      refine x_aloadn (x := 107) rfl rfl ?_
                      refine x_getR (b := 32) 4 0 rfl f_4_59 rfl (congrArg Prod.fst (F.1 107 (4, 18) rfl rfl)) (F.2.1 13696 32 rfl rfl) ?_
                      refine x_getR (b := 53) 1 10 rfl f_4_95 rfl (congrArg Prod.fst (F.1 32 (1, 20) rfl rfl)) (F.2.1 4106 53 rfl rfl) ?_
                      refine x_iloadn (x := a1) rfl rfl ?_
                      refine x_iconst (v := 2) rfl ki_2 ?_
                      refine x_inv (N := m_X8_at) (As := [.int a1, .int 2]) (b := 53) (st := []) (d' := 98) (mc := 0) (ms := 0) (host := "") 8 rfl t_X8_at ⟨Or.inl q_4_98, i_X8_at.1, i_X8_at.2⟩ ⟨by decide, rfl⟩ (congrArg Prod.fst (F.1 53 (8, 4) rfl rfl)) rfl (by decide) rfl rfl ⟨by decide, by decide⟩ (jC.of rfl k_X8_at rfl ?_)
                      show jX m_X8_at 98 0 0 0 [(0, .ref 53), (1, .int a1), (2, .int 2)] [] _ 0 0 _
                      refine x_iloadn (x := a1) rfl rfl ?_
                      refine x_iflt (tgt := 24) rfl rfl (ti_lt (show (a1 : Int32).toInt = a1.toInt from rfl) (show (0 : Int32).toInt = 0 by decide) (br_f c3 ?_))
                      refine x_iloadn (x := a1) rfl rfl ?_
                      refine x_aloadn (x := 53) rfl rfl ?_
                      refine y_getI (v := 0) 8 3 rfl f_8_7 rfl (congrArg Prod.fst (F.1 53 (8, 4) rfl rfl)) (F.2.2.1 6787 0 rfl rfl) ?_
                      refine x_icge (tgt := 24) rfl rfl (ti_ge (show (a1 : Int32).toInt = a1.toInt from rfl) (show (0 : Int32).toInt = 0 by decide) (br_f c4 ?_))
                      refine x_iloadn (x := 2) rfl rfl ?_
                      refine x_iflt (tgt := 24) rfl rfl (br_f (by decide) ?_)
                      refine x_iloadn (x := 2) rfl rfl ?_
                      refine x_aloadn (x := 53) rfl rfl ?_
                      refine y_getI (v := 4) 8 0 rfl f_8_19 rfl (congrArg Prod.fst (F.1 53 (8, 4) rfl rfl)) (F.2.2.1 6784 4 rfl rfl) ?_
                      refine x_iclt (tgt := 26) rfl rfl (br_t (by decide) ?_)
                      refine x_aloadn (x := 53) rfl rfl ?_
                      refine x_getR (b := 54) 8 2 rfl f_8_25 rfl (congrArg Prod.fst (F.1 53 (8, 4) rfl rfl)) (F.2.1 6786 54 rfl rfl) ?_
                      refine x_iloadn (x := a1) rfl rfl ?_
                      refine x_aloadn (x := 53) rfl rfl ?_
                      refine y_getI (v := 4) 8 0 rfl f_8_19 rfl (congrArg Prod.fst (F.1 53 (8, 4) rfl rfl)) (F.2.2.1 6784 4 rfl rfl) ?_
                      refine x_imul rfl ?_
                      refine x_iloadn (x := 2) rfl rfl ?_
                      refine x_iadd rfl ?_
                      refine y_iald (v := 0) (N := 160) ((a1 * 4) + 2).toNatClampNeg rfl (F.1 54 (100, 160) rfl rfl) (vpi (by omega)) rfl (F.2.2.2.1 54 rfl rfl _).1 ?_
                      refine x_iret rfl rfl ?_
                      show jX m_X4_partOut 99 0 0 32 [(0, .ref 107), (1, .int a1), (2, .int a4)] [.int 0] _ 0 0 _
                      refine x_istoren (ls' := [(3, .int 0), (0, .ref 107), (1, .int a1), (2, .int a4)]) rfl rfl rfl ?_
                      refine x_aloadn (x := 107) rfl rfl ?_
                      refine x_getR (b := 32) 4 0 rfl f_4_59 rfl (congrArg Prod.fst (F.1 107 (4, 18) rfl rfl)) (F.2.1 13696 32 rfl rfl) ?_
                      refine x_getR (b := 53) 1 10 rfl f_4_95 rfl (congrArg Prod.fst (F.1 32 (1, 20) rfl rfl)) (F.2.1 4106 53 rfl rfl) ?_
                      refine x_iloadn (x := a1) rfl rfl ?_
                      refine x_iconst (v := 3) rfl ki_3 ?_
                      refine x_inv (N := m_X8_at) (As := [.int a1, .int 3]) (b := 53) (st := []) (d' := 98) (mc := 0) (ms := 0) (host := "") 8 rfl t_X8_at ⟨Or.inl q_4_98, i_X8_at.1, i_X8_at.2⟩ ⟨by decide, rfl⟩ (congrArg Prod.fst (F.1 53 (8, 4) rfl rfl)) rfl (by decide) rfl rfl ⟨by decide, by decide⟩ (jC.of rfl k_X8_at rfl ?_)
                      show jX m_X8_at 98 0 0 0 [(0, .ref 53), (1, .int a1), (2, .int 3)] [] _ 0 0 _
                      refine x_iloadn (x := a1) rfl rfl ?_
                      refine x_iflt (tgt := 24) rfl rfl (ti_lt (show (a1 : Int32).toInt = a1.toInt from rfl) (show (0 : Int32).toInt = 0 by decide) (br_f c3 ?_))
                      refine x_iloadn (x := a1) rfl rfl ?_
                      refine x_aloadn (x := 53) rfl rfl ?_
                      refine y_getI (v := 0) 8 3 rfl f_8_7 rfl (congrArg Prod.fst (F.1 53 (8, 4) rfl rfl)) (F.2.2.1 6787 0 rfl rfl) ?_
                      refine x_icge (tgt := 24) rfl rfl (ti_ge (show (a1 : Int32).toInt = a1.toInt from rfl) (show (0 : Int32).toInt = 0 by decide) (br_f c4 ?_))
                      refine x_iloadn (x := 3) rfl rfl ?_
                      refine x_iflt (tgt := 24) rfl rfl (br_f (by decide) ?_)
                      refine x_iloadn (x := 3) rfl rfl ?_
                      refine x_aloadn (x := 53) rfl rfl ?_
                      refine y_getI (v := 4) 8 0 rfl f_8_19 rfl (congrArg Prod.fst (F.1 53 (8, 4) rfl rfl)) (F.2.2.1 6784 4 rfl rfl) ?_
                      refine x_iclt (tgt := 26) rfl rfl (br_t (by decide) ?_)
                      refine x_aloadn (x := 53) rfl rfl ?_
                      refine x_getR (b := 54) 8 2 rfl f_8_25 rfl (congrArg Prod.fst (F.1 53 (8, 4) rfl rfl)) (F.2.1 6786 54 rfl rfl) ?_
                      refine x_iloadn (x := a1) rfl rfl ?_
                      refine x_aloadn (x := 53) rfl rfl ?_
                      refine y_getI (v := 4) 8 0 rfl f_8_19 rfl (congrArg Prod.fst (F.1 53 (8, 4) rfl rfl)) (F.2.2.1 6784 4 rfl rfl) ?_
                      refine x_imul rfl ?_
                      refine x_iloadn (x := 3) rfl rfl ?_
                      refine x_iadd rfl ?_
                      refine y_iald (v := 0) (N := 160) ((a1 * 4) + 3).toNatClampNeg rfl (F.1 54 (100, 160) rfl rfl) (vpi (by omega)) rfl (F.2.2.2.1 54 rfl rfl _).1 ?_
                      refine x_iret rfl rfl ?_
                      show jX m_X4_partOut 99 0 0 45 [(3, .int 0), (0, .ref 107), (1, .int a1), (2, .int a4)] [.int 0] _ 0 0 _
                      refine x_istore (ls' := [(4, .int 0), (3, .int 0), (0, .ref 107), (1, .int a1), (2, .int a4)]) rfl rfl rfl ?_
                      refine x_aloadn (x := 107) rfl rfl ?_
                      refine x_getR (b := 98) 4 2 rfl f_4_67 rfl (congrArg Prod.fst (F.1 107 (4, 18) rfl rfl)) (F.2.1 13698 98 rfl rfl) ?_
                      refine x_aloadn (x := 107) rfl rfl ?_
                      refine x_getR (b := 32) 4 0 rfl f_4_59 rfl (congrArg Prod.fst (F.1 107 (4, 18) rfl rfl)) (F.2.1 13696 32 rfl rfl) ?_
                      refine x_getR (b := 53) 1 10 rfl f_4_95 rfl (congrArg Prod.fst (F.1 32 (1, 20) rfl rfl)) (F.2.1 4106 53 rfl rfl) ?_
                      refine x_iloadn (x := a1) rfl rfl ?_
                      refine x_iconst (v := 1) rfl ki_1 ?_
                      refine x_inv (N := m_X8_at) (As := [.int a1, .int 1]) (b := 53) (st := [.ref 98]) (d' := 98) (mc := 0) (ms := 0) (host := "") 8 rfl t_X8_at ⟨Or.inl q_4_98, i_X8_at.1, i_X8_at.2⟩ ⟨by decide, rfl⟩ (congrArg Prod.fst (F.1 53 (8, 4) rfl rfl)) rfl (by decide) rfl rfl ⟨by decide, by decide⟩ (jC.of rfl k_X8_at rfl ?_)
                      show jX m_X8_at 98 0 0 0 [(0, .ref 53), (1, .int a1), (2, .int 1)] [] _ 0 0 _
                      refine x_iloadn (x := a1) rfl rfl ?_
                      refine x_iflt (tgt := 24) rfl rfl (ti_lt (show (a1 : Int32).toInt = a1.toInt from rfl) (show (0 : Int32).toInt = 0 by decide) (br_f c3 ?_))
                      refine x_iloadn (x := a1) rfl rfl ?_
                      refine x_aloadn (x := 53) rfl rfl ?_
                      refine y_getI (v := 0) 8 3 rfl f_8_7 rfl (congrArg Prod.fst (F.1 53 (8, 4) rfl rfl)) (F.2.2.1 6787 0 rfl rfl) ?_
                      refine x_icge (tgt := 24) rfl rfl (ti_ge (show (a1 : Int32).toInt = a1.toInt from rfl) (show (0 : Int32).toInt = 0 by decide) (br_f c4 ?_))
                      refine x_iloadn (x := 1) rfl rfl ?_
                      refine x_iflt (tgt := 24) rfl rfl (br_f (by decide) ?_)
                      refine x_iloadn (x := 1) rfl rfl ?_
                      refine x_aloadn (x := 53) rfl rfl ?_
                      refine y_getI (v := 4) 8 0 rfl f_8_19 rfl (congrArg Prod.fst (F.1 53 (8, 4) rfl rfl)) (F.2.2.1 6784 4 rfl rfl) ?_
                      refine x_iclt (tgt := 26) rfl rfl (br_t (by decide) ?_)
                      refine x_aloadn (x := 53) rfl rfl ?_
                      refine x_getR (b := 54) 8 2 rfl f_8_25 rfl (congrArg Prod.fst (F.1 53 (8, 4) rfl rfl)) (F.2.1 6786 54 rfl rfl) ?_
                      refine x_iloadn (x := a1) rfl rfl ?_
                      refine x_aloadn (x := 53) rfl rfl ?_
                      refine y_getI (v := 4) 8 0 rfl f_8_19 rfl (congrArg Prod.fst (F.1 53 (8, 4) rfl rfl)) (F.2.2.1 6784 4 rfl rfl) ?_
                      refine x_imul rfl ?_
                      refine x_iloadn (x := 1) rfl rfl ?_
                      refine x_iadd rfl ?_
                      refine y_iald (v := 0) (N := 160) ((a1 * 4) + 1).toNatClampNeg rfl (F.1 54 (100, 160) rfl rfl) (vpi (by omega)) rfl (F.2.2.2.1 54 rfl rfl _).1 ?_
                      refine x_iret rfl rfl ?_
                      show jX m_X4_partOut 99 0 0 63 [(4, .int 0), (3, .int 0), (0, .ref 107), (1, .int a1), (2, .int a4)] [.int 0, .ref 98] _ 0 0 _
                      refine x_sipush (v := 366) rfl ks_366 ?_
                      refine y_imul (v := 0) rfl (by decide) ?_
                      refine x_iloadn (x := a4) rfl rfl ?_
                      refine x_inv (N := m_X0_turnTo) (As := [.int 0, .int a4]) (b := 98) (st := []) (d' := 98) (mc := 0) (ms := 0) (host := "") 0 rfl t_X0_turnTo ⟨Or.inl q_4_101, i_X0_turnTo.1, i_X0_turnTo.2⟩ ⟨by decide, rfl⟩ (congrArg Prod.fst (F.1 98 (0, 16) rfl rfl)) rfl (by decide) rfl rfl ⟨by decide, by decide⟩ (jC.of rfl k_X0_turnTo rfl ?_)
                      show jX m_X0_turnTo 98 0 0 0 [(0, .ref 98), (1, .int 0), (2, .int a4)] [] _ 0 0 _
                      refine x_aloadn (x := 98) rfl rfl ?_
                      refine x_iloadn (x := 0) rfl rfl ?_
                      refine x_iloadn (x := a4) rfl rfl ?_
                      refine x_inv (N := m_X0_readLaws) (As := [.int 0, .int a4]) (b := 98) (st := []) (d' := 97) (mc := 0) (ms := 0) (host := "") 0 rfl t_X0_readLaws ⟨Or.inl q_0_65, i_X0_readLaws.1, i_X0_readLaws.2⟩ ⟨by decide, rfl⟩ (congrArg Prod.fst (F.1 98 (0, 16) rfl rfl)) rfl (by decide) rfl rfl ⟨by decide, by decide⟩ (jC.of rfl k_X0_readLaws rfl ?_)
                      show jX m_X0_readLaws 97 0 0 0 [(0, .ref 98), (1, .int 0), (2, .int a4)] [] _ 0 0 _
                      refine x_aloadn (x := 98) rfl rfl ?_
                      refine x_iloadn (x := 0) rfl rfl ?_
                      refine x_putI 0 10 rfl f_0_37 rfl (jfin_no TX0 RX0 16 rfl rfl) (congrArg Prod.fst (F.1 98 (0, 16) rfl rfl)) rfl ?_
                      refine x_aloadn (x := 98) rfl rfl ?_
                      refine x_iloadn (x := a4) rfl rfl ?_
                      refine x_putI 0 11 rfl f_0_41 rfl (jfin_no TX0 RX0 16 rfl rfl) (congrArg Prod.fst (F.1 98 (0, 16) rfl rfl)) rfl ?_
                      refine x_aloadn (x := 98) rfl rfl ?_
                      refine x_getR (b := 101) 0 4 rfl f_0_18 rfl (congrArg Prod.fst (F.1 98 (0, 16) rfl rfl)) (F.2.1 12548 101 rfl rfl) ?_
                      refine x_aloadn (x := 98) rfl rfl ?_
                      refine y_getI (v := 0) 0 10 rfl f_0_37 rfl (congrArg Prod.fst (F.1 98 (0, 16) rfl rfl)) rfl ?_
                      refine x_aloadn (x := 98) rfl rfl ?_
                      refine y_getI (v := a4) 0 11 rfl f_0_41 rfl (congrArg Prod.fst (F.1 98 (0, 16) rfl rfl)) rfl ?_
                      refine x_aloadn (x := 98) rfl rfl ?_
                      refine x_getR (b := 32) 0 0 rfl f_0_57 rfl (congrArg Prod.fst (F.1 98 (0, 16) rfl rfl)) (F.2.1 12544 32 rfl rfl) ?_
                      refine y_getI (v := 1) 1 19 rfl f_0_81 rfl (congrArg Prod.fst (F.1 32 (1, 20) rfl rfl)) (F.2.2.1 4115 1 rfl rfl) ?_
                      refine x_inst (N := m_X11_isFresh) (As := [.ref 101, .int 0, .int a4, .int 1]) (st := []) (d' := 96) (mc := 0) (ms := 0) (host := "ParishChest") rfl t_X11_isFresh ⟨Or.inr q_0_84, s_X11_isFresh⟩ rfl (by decide) rfl rfl ⟨by decide, by decide⟩ (jC.of rfl k_X11_isFresh rfl ?_)
                      show jX m_X11_isFresh 96 0 0 0 [(0, .ref 101), (1, .int 0), (2, .int a4), (3, .int 1)] [] _ 0 0 _
                      refine x_aloadn (x := 101) rfl rfl ?_
                      refine y_alen (N := 3) (v := 3) rfl (F.1 101 (100, 3) rfl rfl) (by decide) (by decide) ?_
                      refine x_iconst (v := 3) rfl ki_3 ?_
                      refine x_icge (tgt := 8) rfl rfl (br_t (by decide) ?_)
                      refine x_aloadn (x := 101) rfl rfl ?_
                      refine x_iconst (v := 0) rfl ki_0 ?_
                      refine y_iald (v := 0) (N := 3) 0 rfl (F.1 101 (100, 3) rfl rfl) (jinb_of (by decide)) (by decide) (F.2.2.2.1 101 rfl rfl 0).1 ?_
                      refine x_iloadn (x := 0) rfl rfl ?_
                      refine x_icne (tgt := 33) rfl rfl (bn_f (by decide) ?_)
                      refine x_aloadn (x := 101) rfl rfl ?_
                      refine x_iconst (v := 1) rfl ki_1 ?_
                      refine y_iald (v := 0) (N := 3) 1 rfl (F.1 101 (100, 3) rfl rfl) (jinb_of (by decide)) (by decide) (F.2.2.2.1 101 rfl rfl 1).1 ?_
                      refine x_iloadn (x := a4) rfl rfl ?_
                      refine x_icne (tgt := 33) rfl rfl (ti_ne (show (0 : Int32).toInt = 0 by decide) (show (a4 : Int32).toInt = a4.toInt from rfl) (bn_f c9 ?_))
                      refine x_aloadn (x := 101) rfl rfl ?_
                      refine x_iconst (v := 2) rfl ki_2 ?_
                      refine y_iald (v := 0) (N := 3) 2 rfl (F.1 101 (100, 3) rfl rfl) (jinb_of (by decide)) (by decide) (F.2.2.2.1 101 rfl rfl 2).1 ?_
                      refine x_iloadn (x := 1) rfl rfl ?_
                      refine x_icne (tgt := 33) rfl rfl (bn_t (by decide) ?_)
                      refine x_iconst (v := 0) rfl ki_0 ?_
                      refine x_istore (ls' := [(4, .int 0), (0, .ref 101), (1, .int 0), (2, .int a4), (3, .int 1)]) rfl rfl rfl ?_
                      refine x_aloadn (x := 101) rfl rfl ?_
                      refine x_iconst (v := 0) rfl ki_0 ?_
                      refine x_iloadn (x := 0) rfl rfl ?_
                      refine y_iast (N := 3) 0 rfl (F.1 101 (100, 3) rfl rfl) rfl (jinb_of (by decide)) (by decide) ?_
                      refine x_aloadn (x := 101) rfl rfl ?_
                      refine x_iconst (v := 1) rfl ki_1 ?_
                      refine x_iloadn (x := a4) rfl rfl ?_
                      refine y_iast (N := 3) 1 rfl (F.1 101 (100, 3) rfl rfl) rfl (jinb_of (by decide)) (by decide) ?_
                      refine x_aloadn (x := 101) rfl rfl ?_
                      refine x_iconst (v := 2) rfl ki_2 ?_
                      refine x_iloadn (x := 1) rfl rfl ?_
                      refine y_iast (N := 3) 2 rfl (F.1 101 (100, 3) rfl rfl) rfl (jinb_of (by decide)) (by decide) ?_
                      refine x_iload (x := 0) rfl rfl ?_
                      refine x_zret rfl rfl (by first | decide | exact jp_01 _) ?_
                      show jX m_X0_readLaws 97 0 0 32 [(0, .ref 98), (1, .int 0), (2, .int a4)] [.int 0] _ 0 0 _
                      refine x_ifeq (tgt := 36) rfl rfl (br_t (by decide) ?_)
                      refine x_bipush (v := 30) rfl kb_30 ?_
                      refine x_aloadn (x := 98) rfl rfl ?_
                      refine x_getR (b := 32) 0 0 rfl f_0_57 rfl (congrArg Prod.fst (F.1 98 (0, 16) rfl rfl)) (F.2.1 12544 32 rfl rfl) ?_
                      refine y_getI (v := 0) 1 18 rfl f_0_72 rfl (congrArg Prod.fst (F.1 32 (1, 20) rfl rfl)) (F.2.2.1 4114 0 rfl rfl) ?_
                      refine x_inst (N := m_J9_min_7cf53) (As := [.int 30, .int 0]) (st := []) (d' := 96) (mc := 0) (ms := 0) (host := "") rfl t_J9_min_7cf53 ⟨Or.inl q_0_88, s_J9_min_7cf53⟩ rfl (by decide) rfl rfl ⟨by decide, by decide⟩ (jC.of rfl k_J9_min_7cf53 rfl ?_)
                      show jX m_J9_min_7cf53 96 0 0 0 [(0, .int 30), (1, .int 0)] [] _ 0 0 _
                      refine x_iloadn (x := 30) rfl rfl ?_
                      refine x_iloadn (x := 0) rfl rfl ?_
                      refine x_icgt (tgt := 9) rfl rfl (br_t (by decide) ?_)
                      refine x_iloadn (x := 0) rfl rfl ?_
                      refine x_iret rfl rfl ?_
                      show jX m_X0_readLaws 97 0 0 48 [(0, .ref 98), (1, .int 0), (2, .int a4)] [.int 0] _ 0 0 _
                      refine x_istoren (ls' := [(3, .int 0), (0, .ref 98), (1, .int 0), (2, .int a4)]) rfl rfl rfl ?_
                      refine x_iconst (v := 0) rfl ki_0 ?_
                      refine x_istore (ls' := [(4, .int 0), (3, .int 0), (0, .ref 98), (1, .int 0), (2, .int a4)]) rfl rfl rfl ?_
                      refine x_iload (x := 0) rfl rfl ?_
                      refine x_iloadn (x := 0) rfl rfl ?_
                      refine x_icge (tgt := 80) rfl rfl (br_t (by decide) ?_)
                      refine x_iloadn (x := 0) rfl rfl ?_
                      refine x_iconst (v := 1) rfl ki_1 ?_
                      refine y_isub (v := (-1)) rfl (by decide) ?_
                      refine x_istore (ls' := [(4, .int (-1)), (3, .int 0), (0, .ref 98), (1, .int 0), (2, .int a4)]) rfl rfl rfl ?_
                      refine x_iload (x := (-1)) rfl rfl ?_
                      refine x_iflt (tgt := 167) rfl rfl (br_t (by decide) ?_)
                      refine x_vret rfl rfl ?_
                      show jX m_X0_turnTo 98 0 0 6 [(0, .ref 98), (1, .int 0), (2, .int a4)] [] _ 0 0 _
                      refine x_aloadn (x := 98) rfl rfl ?_
                      refine x_iloadn (x := 0) rfl rfl ?_
                      refine x_iloadn (x := a4) rfl rfl ?_
                      refine x_inv (N := m_X0_readHouses) (As := [.int 0, .int a4]) (b := 98) (st := []) (d' := 97) (mc := 0) (ms := 0) (host := "") 0 rfl t_X0_readHouses ⟨Or.inl q_0_69, i_X0_readHouses.1, i_X0_readHouses.2⟩ ⟨by decide, rfl⟩ (congrArg Prod.fst (F.1 98 (0, 16) rfl rfl)) rfl (by decide) rfl rfl ⟨by decide, by decide⟩ (jC.of rfl k_X0_readHouses rfl ?_)
                      show jX m_X0_readHouses 97 0 0 0 [(0, .ref 98), (1, .int 0), (2, .int a4)] [] _ 0 0 _
                      refine x_aloadn (x := 98) rfl rfl ?_
                      refine x_iloadn (x := 0) rfl rfl ?_
                      refine x_putI 0 10 rfl f_0_37 rfl (jfin_no TX0 RX0 16 rfl rfl) (congrArg Prod.fst (F.1 98 (0, 16) rfl rfl)) rfl ?_
                      refine x_aloadn (x := 98) rfl rfl ?_
                      refine x_iloadn (x := a4) rfl rfl ?_
                      refine x_putI 0 11 rfl f_0_41 rfl (jfin_no TX0 RX0 16 rfl rfl) (congrArg Prod.fst (F.1 98 (0, 16) rfl rfl)) rfl ?_
                      refine x_aloadn (x := 98) rfl rfl ?_
                      refine x_getR (b := 105) 0 8 rfl f_0_30 rfl (congrArg Prod.fst (F.1 98 (0, 16) rfl rfl)) (F.2.1 12552 105 rfl rfl) ?_
                      refine x_aloadn (x := 98) rfl rfl ?_
                      refine y_getI (v := 0) 0 10 rfl f_0_37 rfl (congrArg Prod.fst (F.1 98 (0, 16) rfl rfl)) rfl ?_
                      refine x_aloadn (x := 98) rfl rfl ?_
                      refine y_getI (v := a4) 0 11 rfl f_0_41 rfl (congrArg Prod.fst (F.1 98 (0, 16) rfl rfl)) rfl ?_
                      refine x_aloadn (x := 98) rfl rfl ?_
                      refine x_getR (b := 32) 0 0 rfl f_0_57 rfl (congrArg Prod.fst (F.1 98 (0, 16) rfl rfl)) (F.2.1 12544 32 rfl rfl) ?_
                      refine y_getI (v := 1) 1 19 rfl f_0_81 rfl (congrArg Prod.fst (F.1 32 (1, 20) rfl rfl)) (F.2.2.1 4115 1 rfl rfl) ?_
                      refine x_inst (N := m_X11_isFresh) (As := [.ref 105, .int 0, .int a4, .int 1]) (st := []) (d' := 96) (mc := 0) (ms := 0) (host := "ParishChest") rfl t_X11_isFresh ⟨Or.inr q_0_84, s_X11_isFresh⟩ rfl (by decide) rfl rfl ⟨by decide, by decide⟩ (jC.of rfl k_X11_isFresh rfl ?_)
                      show jX m_X11_isFresh 96 0 0 0 [(0, .ref 105), (1, .int 0), (2, .int a4), (3, .int 1)] [] _ 0 0 _
                      refine x_aloadn (x := 105) rfl rfl ?_
                      refine y_alen (N := 3) (v := 3) rfl (F.1 105 (100, 3) rfl rfl) (by decide) (by decide) ?_
                      refine x_iconst (v := 3) rfl ki_3 ?_
                      refine x_icge (tgt := 8) rfl rfl (br_t (by decide) ?_)
                      refine x_aloadn (x := 105) rfl rfl ?_
                      refine x_iconst (v := 0) rfl ki_0 ?_
                      refine y_iald (v := 0) (N := 3) 0 rfl (F.1 105 (100, 3) rfl rfl) (jinb_of (by decide)) (by decide) (F.2.2.2.1 105 rfl rfl 0).1 ?_
                      refine x_iloadn (x := 0) rfl rfl ?_
                      refine x_icne (tgt := 33) rfl rfl (bn_f (by decide) ?_)
                      refine x_aloadn (x := 105) rfl rfl ?_
                      refine x_iconst (v := 1) rfl ki_1 ?_
                      refine y_iald (v := 0) (N := 3) 1 rfl (F.1 105 (100, 3) rfl rfl) (jinb_of (by decide)) (by decide) (F.2.2.2.1 105 rfl rfl 1).1 ?_
                      refine x_iloadn (x := a4) rfl rfl ?_
                      refine x_icne (tgt := 33) rfl rfl (ti_ne (show (0 : Int32).toInt = 0 by decide) (show (a4 : Int32).toInt = a4.toInt from rfl) (bn_f c9 ?_))
                      refine x_aloadn (x := 105) rfl rfl ?_
                      refine x_iconst (v := 2) rfl ki_2 ?_
                      refine y_iald (v := 0) (N := 3) 2 rfl (F.1 105 (100, 3) rfl rfl) (jinb_of (by decide)) (by decide) (F.2.2.2.1 105 rfl rfl 2).1 ?_
                      refine x_iloadn (x := 1) rfl rfl ?_
                      refine x_icne (tgt := 33) rfl rfl (bn_t (by decide) ?_)
                      refine x_iconst (v := 0) rfl ki_0 ?_
                      refine x_istore (ls' := [(4, .int 0), (0, .ref 105), (1, .int 0), (2, .int a4), (3, .int 1)]) rfl rfl rfl ?_
                      refine x_aloadn (x := 105) rfl rfl ?_
                      refine x_iconst (v := 0) rfl ki_0 ?_
                      refine x_iloadn (x := 0) rfl rfl ?_
                      refine y_iast (N := 3) 0 rfl (F.1 105 (100, 3) rfl rfl) rfl (jinb_of (by decide)) (by decide) ?_
                      refine x_aloadn (x := 105) rfl rfl ?_
                      refine x_iconst (v := 1) rfl ki_1 ?_
                      refine x_iloadn (x := a4) rfl rfl ?_
                      refine y_iast (N := 3) 1 rfl (F.1 105 (100, 3) rfl rfl) rfl (jinb_of (by decide)) (by decide) ?_
                      refine x_aloadn (x := 105) rfl rfl ?_
                      refine x_iconst (v := 2) rfl ki_2 ?_
                      refine x_iloadn (x := 1) rfl rfl ?_
                      refine y_iast (N := 3) 2 rfl (F.1 105 (100, 3) rfl rfl) rfl (jinb_of (by decide)) (by decide) ?_
                      refine x_iload (x := 0) rfl rfl ?_
                      refine x_zret rfl rfl (by first | decide | exact jp_01 _) ?_
                      show jX m_X0_readHouses 97 0 0 32 [(0, .ref 98), (1, .int 0), (2, .int a4)] [.int 0] _ 0 0 _
                      refine x_ifeq (tgt := 36) rfl rfl (br_t (by decide) ?_)
                      refine x_bipush (v := 40) rfl kb_40 ?_
                      refine x_aloadn (x := 98) rfl rfl ?_
                      refine x_getR (b := 32) 0 0 rfl f_0_57 rfl (congrArg Prod.fst (F.1 98 (0, 16) rfl rfl)) (F.2.1 12544 32 rfl rfl) ?_
                      refine x_getR (b := 49) 1 8 rfl f_0_120 rfl (congrArg Prod.fst (F.1 32 (1, 20) rfl rfl)) (F.2.1 4104 49 rfl rfl) ?_
                      refine y_getI (v := 0) 8 3 rfl f_0_124 rfl (congrArg Prod.fst (F.1 49 (8, 4) rfl rfl)) (F.2.2.1 6275 0 rfl rfl) ?_
                      refine x_inst (N := m_J9_min_7cf53) (As := [.int 40, .int 0]) (st := []) (d' := 96) (mc := 0) (ms := 0) (host := "") rfl t_J9_min_7cf53 ⟨Or.inl q_0_88, s_J9_min_7cf53⟩ rfl (by decide) rfl rfl ⟨by decide, by decide⟩ (jC.of rfl k_J9_min_7cf53 rfl ?_)
                      show jX m_J9_min_7cf53 96 0 0 0 [(0, .int 40), (1, .int 0)] [] _ 0 0 _
                      refine x_iloadn (x := 40) rfl rfl ?_
                      refine x_iloadn (x := 0) rfl rfl ?_
                      refine x_icgt (tgt := 9) rfl rfl (br_t (by decide) ?_)
                      refine x_iloadn (x := 0) rfl rfl ?_
                      refine x_iret rfl rfl ?_
                      show jX m_X0_readHouses 97 0 0 51 [(0, .ref 98), (1, .int 0), (2, .int a4)] [.int 0] _ 0 0 _
                      refine x_istoren (ls' := [(3, .int 0), (0, .ref 98), (1, .int 0), (2, .int a4)]) rfl rfl rfl ?_
                      refine x_aloadn (x := 98) rfl rfl ?_
                      refine x_aloadn (x := 98) rfl rfl ?_
                      refine x_getR (b := 32) 0 0 rfl f_0_57 rfl (congrArg Prod.fst (F.1 98 (0, 16) rfl rfl)) (F.2.1 12544 32 rfl rfl) ?_
                      refine x_getR (b := 47) 1 7 rfl f_0_129 rfl (congrArg Prod.fst (F.1 32 (1, 20) rfl rfl)) (F.2.1 4103 47 rfl rfl) ?_
                      refine x_iconst (v := 3) rfl ki_3 ?_
                      refine x_aloadn (x := 98) rfl rfl ?_
                      refine x_getR (b := 102) 0 5 rfl f_0_21 rfl (congrArg Prod.fst (F.1 98 (0, 16) rfl rfl)) (F.2.1 12549 102 rfl rfl) ?_
                      refine x_iconst (v := 0) rfl ki_0 ?_
                      refine x_inv (N := m_X0_readLatest) (As := [.ref 47, .int 3, .ref 102, .int 0]) (b := 98) (st := []) (d' := 96) (mc := 0) (ms := 0) (host := "") 0 rfl t_X0_readLatest ⟨Or.inl q_0_132, i_X0_readLatest.1, i_X0_readLatest.2⟩ ⟨by decide, rfl⟩ (congrArg Prod.fst (F.1 98 (0, 16) rfl rfl)) rfl (by decide) rfl rfl ⟨by decide, by decide⟩ (jC.of rfl k_X0_readLatest rfl ?_)
                      show jX m_X0_readLatest 96 0 0 0 [(0, .ref 98), (1, .ref 47), (2, .int 3), (3, .ref 102), (4, .int 0)] [] _ 0 0 _
                      refine x_iconst (v := 0) rfl ki_0 ?_
                      refine x_istore (ls' := [(5, .int 0), (0, .ref 98), (1, .ref 47), (2, .int 3), (3, .ref 102), (4, .int 0)]) rfl rfl rfl ?_
                      refine x_iload (x := 0) rfl rfl ?_
                      refine x_bipush (v := 40) rfl kb_40 ?_
                      refine x_icge (tgt := 52) rfl rfl (br_f (by decide) ?_)
                      refine x_iload (x := 0) rfl rfl ?_
                      refine x_aloadn (x := 98) rfl rfl ?_
                      refine x_getR (b := 32) 0 0 rfl f_0_57 rfl (congrArg Prod.fst (F.1 98 (0, 16) rfl rfl)) (F.2.1 12544 32 rfl rfl) ?_
                      refine x_getR (b := 49) 1 8 rfl f_0_120 rfl (congrArg Prod.fst (F.1 32 (1, 20) rfl rfl)) (F.2.1 4104 49 rfl rfl) ?_
                      refine y_getI (v := 0) 8 3 rfl f_0_124 rfl (congrArg Prod.fst (F.1 49 (8, 4) rfl rfl)) (F.2.2.1 6275 0 rfl rfl) ?_
                      refine x_icge (tgt := 52) rfl rfl (br_t (by decide) ?_)
                      refine x_iconst (v := 0) rfl ki_0 ?_
                      refine x_istore (ls' := [(5, .int 0), (0, .ref 98), (1, .ref 47), (2, .int 3), (3, .ref 102), (4, .int 0)]) rfl rfl rfl ?_
                      refine x_iload (x := 0) rfl rfl ?_
                      refine x_aloadn (x := 47) rfl rfl ?_
                      refine y_getI (v := 0) 8 3 rfl f_0_124 rfl (congrArg Prod.fst (F.1 47 (8, 4) rfl rfl)) (F.2.2.1 6019 0 rfl rfl) ?_
                      refine x_icge (tgt := 161) rfl rfl (br_t (by decide) ?_)
                      refine x_vret rfl rfl ?_
                      show jX m_X0_readHouses 97 0 0 69 [(3, .int 0), (0, .ref 98), (1, .int 0), (2, .int a4)] [] _ 0 0 _
                      refine x_aloadn (x := 98) rfl rfl ?_
                      refine x_aloadn (x := 98) rfl rfl ?_
                      refine x_getR (b := 32) 0 0 rfl f_0_57 rfl (congrArg Prod.fst (F.1 98 (0, 16) rfl rfl)) (F.2.1 12544 32 rfl rfl) ?_
                      refine x_getR (b := 51) 1 9 rfl f_0_136 rfl (congrArg Prod.fst (F.1 32 (1, 20) rfl rfl)) (F.2.1 4105 51 rfl rfl) ?_
                      refine x_iconst (v := 3) rfl ki_3 ?_
                      refine x_aloadn (x := 98) rfl rfl ?_
                      refine x_getR (b := 103) 0 6 rfl f_0_24 rfl (congrArg Prod.fst (F.1 98 (0, 16) rfl rfl)) (F.2.1 12550 103 rfl rfl) ?_
                      refine x_iconst (v := (-1)) rfl ki_m1 ?_
                      refine x_inv (N := m_X0_readLatest) (As := [.ref 51, .int 3, .ref 103, .int (-1)]) (b := 98) (st := []) (d' := 96) (mc := 0) (ms := 0) (host := "") 0 rfl t_X0_readLatest ⟨Or.inl q_0_132, i_X0_readLatest.1, i_X0_readLatest.2⟩ ⟨by decide, rfl⟩ (congrArg Prod.fst (F.1 98 (0, 16) rfl rfl)) rfl (by decide) rfl rfl ⟨by decide, by decide⟩ (jC.of rfl k_X0_readLatest rfl ?_)
                      show jX m_X0_readLatest 96 0 0 0 [(0, .ref 98), (1, .ref 51), (2, .int 3), (3, .ref 103), (4, .int (-1))] [] _ 0 0 _
                      refine x_iconst (v := 0) rfl ki_0 ?_
                      refine x_istore (ls' := [(5, .int 0), (0, .ref 98), (1, .ref 51), (2, .int 3), (3, .ref 103), (4, .int (-1))]) rfl rfl rfl ?_
                      refine x_iload (x := 0) rfl rfl ?_
                      refine x_bipush (v := 40) rfl kb_40 ?_
                      refine x_icge (tgt := 52) rfl rfl (br_f (by decide) ?_)
                      refine x_iload (x := 0) rfl rfl ?_
                      refine x_aloadn (x := 98) rfl rfl ?_
                      refine x_getR (b := 32) 0 0 rfl f_0_57 rfl (congrArg Prod.fst (F.1 98 (0, 16) rfl rfl)) (F.2.1 12544 32 rfl rfl) ?_
                      refine x_getR (b := 49) 1 8 rfl f_0_120 rfl (congrArg Prod.fst (F.1 32 (1, 20) rfl rfl)) (F.2.1 4104 49 rfl rfl) ?_
                      refine y_getI (v := 0) 8 3 rfl f_0_124 rfl (congrArg Prod.fst (F.1 49 (8, 4) rfl rfl)) (F.2.2.1 6275 0 rfl rfl) ?_
                      refine x_icge (tgt := 52) rfl rfl (br_t (by decide) ?_)
                      refine x_iconst (v := 0) rfl ki_0 ?_
                      refine x_istore (ls' := [(5, .int 0), (0, .ref 98), (1, .ref 51), (2, .int 3), (3, .ref 103), (4, .int (-1))]) rfl rfl rfl ?_
                      refine x_iload (x := 0) rfl rfl ?_
                      refine x_aloadn (x := 51) rfl rfl ?_
                      refine y_getI (v := 0) 8 3 rfl f_0_124 rfl (congrArg Prod.fst (F.1 51 (8, 4) rfl rfl)) (F.2.2.1 6531 0 rfl rfl) ?_
                      refine x_icge (tgt := 161) rfl rfl (br_t (by decide) ?_)
                      refine x_vret rfl rfl ?_
                      show jX m_X0_readHouses 97 0 0 86 [(3, .int 0), (0, .ref 98), (1, .int 0), (2, .int a4)] [] _ 0 0 _
                      refine x_iconst (v := 0) rfl ki_0 ?_
                      refine x_istore (ls' := [(4, .int 0), (3, .int 0), (0, .ref 98), (1, .int 0), (2, .int a4)]) rfl rfl rfl ?_
                      refine x_iload (x := 0) rfl rfl ?_
                      refine x_iloadn (x := 0) rfl rfl ?_
                      refine x_icge (tgt := 172) rfl rfl (br_t (by decide) ?_)
                      refine x_vret rfl rfl ?_
                      show jX m_X0_turnTo 98 0 0 12 [(0, .ref 98), (1, .int 0), (2, .int a4)] [] _ 0 0 _
                      refine x_vret rfl rfl ?_
                      show jX m_X4_partOut 99 0 0 71 [(4, .int 0), (3, .int 0), (0, .ref 107), (1, .int a1), (2, .int a4)] [] _ 0 0 _
                      refine x_lconst (v := 0) rfl kl_0 ?_
                      refine x_lstore (ls' := [(5, .long 0), (4, .int 0), (3, .int 0), (0, .ref 107), (1, .int a1), (2, .int a4)]) rfl rfl rfl ?_
                      refine x_iconst (v := 0) rfl ki_0 ?_
                      refine x_istore (ls' := [(7, .int 0), (5, .long 0), (4, .int 0), (3, .int 0), (0, .ref 107), (1, .int a1), (2, .int a4)]) rfl rfl rfl ?_
                      refine x_iload (x := 0) rfl rfl ?_
                      refine x_aloadn (x := 107) rfl rfl ?_
                      refine x_inv (N := m_X4_houses) (As := []) (b := 107) (st := [.int 0]) (d' := 98) (mc := 0) (ms := 0) (host := "") 4 rfl t_X4_houses ⟨Or.inl q_4_107, i_X4_houses.1, i_X4_houses.2⟩ ⟨by decide, rfl⟩ (congrArg Prod.fst (F.1 107 (4, 18) rfl rfl)) rfl (by decide) rfl rfl ⟨by decide, by decide⟩ (jC.of rfl k_X4_houses rfl ?_)
                      show jX m_X4_houses 98 0 0 0 [(0, .ref 107)] [] _ 0 0 _
                      refine x_bipush (v := 40) rfl kb_40 ?_
                      refine x_aloadn (x := 107) rfl rfl ?_
                      refine x_getR (b := 32) 4 0 rfl f_4_59 rfl (congrArg Prod.fst (F.1 107 (4, 18) rfl rfl)) (F.2.1 13696 32 rfl rfl) ?_
                      refine x_getR (b := 49) 1 8 rfl f_4_71 rfl (congrArg Prod.fst (F.1 32 (1, 20) rfl rfl)) (F.2.1 4104 49 rfl rfl) ?_
                      refine y_getI (v := 0) 8 3 rfl f_4_77 rfl (congrArg Prod.fst (F.1 49 (8, 4) rfl rfl)) (F.2.2.1 6275 0 rfl rfl) ?_
                      refine x_inst (N := m_J9_min_7cf53) (As := [.int 40, .int 0]) (st := []) (d' := 97) (mc := 0) (ms := 0) (host := "") rfl t_J9_min_7cf53 ⟨Or.inl q_4_82, s_J9_min_7cf53⟩ rfl (by decide) rfl rfl ⟨by decide, by decide⟩ (jC.of rfl k_J9_min_7cf53 rfl ?_)
                      show jX m_J9_min_7cf53 97 0 0 0 [(0, .int 40), (1, .int 0)] [] _ 0 0 _
                      refine x_iloadn (x := 40) rfl rfl ?_
                      refine x_iloadn (x := 0) rfl rfl ?_
                      refine x_icgt (tgt := 9) rfl rfl (br_t (by decide) ?_)
                      refine x_iloadn (x := 0) rfl rfl ?_
                      refine x_iret rfl rfl ?_
                      show jX m_X4_houses 98 0 0 15 [(0, .ref 107)] [.int 0] _ 0 0 _
                      refine x_iret rfl rfl ?_
                      show jX m_X4_partOut 99 0 0 83 [(7, .int 0), (5, .long 0), (4, .int 0), (3, .int 0), (0, .ref 107), (1, .int a1), (2, .int a4)] [.int 0, .int 0] _ 0 0 _
                      refine x_icge (tgt := 187) rfl rfl (br_t (by decide) ?_)
                      refine x_aloadn (x := 107) rfl rfl ?_
                      refine x_iload (x := 0) rfl rfl ?_
                      refine x_lload (x := 0) rfl rfl ?_
                      refine x_inv (N := m_X4_share) (As := [.int 0, .long 0]) (b := 107) (st := []) (d' := 98) (mc := 0) (ms := 0) (host := "") 4 rfl t_X4_share ⟨Or.inl q_4_123, i_X4_share.1, i_X4_share.2⟩ ⟨by decide, rfl⟩ (congrArg Prod.fst (F.1 107 (4, 18) rfl rfl)) rfl (by decide) rfl rfl ⟨by decide, by decide⟩ (jC.of rfl k_X4_share rfl ?_)
                      show jX m_X4_share 98 0 0 0 [(0, .ref 107), (1, .int 0), (2, .long 0)] [] _ 0 0 _
                      refine x_lloadn (x := 0) rfl rfl ?_
                      refine x_lconst (v := 0) rfl kl_0 ?_
                      refine y_lcmp (v := 0) rfl (by decide) ?_
                      refine x_ifne (tgt := 10) rfl rfl (bn_f (by decide) ?_)
                      refine x_lconst (v := 0) rfl kl_0 ?_
                      refine x_goto (tgt := 12) rfl rfl ?_
                      refine x_lstore (ls' := [(4, .long 0), (0, .ref 107), (1, .int 0), (2, .long 0)]) rfl rfl rfl ?_
                      refine x_iconst (v := 0) rfl ki_0 ?_
                      refine x_istore (ls' := [(6, .int 0), (4, .long 0), (0, .ref 107), (1, .int 0), (2, .long 0)]) rfl rfl rfl ?_
                      refine x_iload (x := 0) rfl rfl ?_
                      refine x_aloadn (x := 107) rfl rfl ?_
                      refine x_inv (N := m_X4_houses) (As := []) (b := 107) (st := [.int 0]) (d' := 97) (mc := 0) (ms := 0) (host := "") 4 rfl t_X4_houses ⟨Or.inl q_4_107, i_X4_houses.1, i_X4_houses.2⟩ ⟨by decide, rfl⟩ (congrArg Prod.fst (F.1 107 (4, 18) rfl rfl)) rfl (by decide) rfl rfl ⟨by decide, by decide⟩ (jC.of rfl k_X4_houses rfl ?_)
                      show jX m_X4_houses 97 0 0 0 [(0, .ref 107)] [] _ 0 0 _
                      refine x_bipush (v := 40) rfl kb_40 ?_
                      refine x_aloadn (x := 107) rfl rfl ?_
                      refine x_getR (b := 32) 4 0 rfl f_4_59 rfl (congrArg Prod.fst (F.1 107 (4, 18) rfl rfl)) (F.2.1 13696 32 rfl rfl) ?_
                      refine x_getR (b := 49) 1 8 rfl f_4_71 rfl (congrArg Prod.fst (F.1 32 (1, 20) rfl rfl)) (F.2.1 4104 49 rfl rfl) ?_
                      refine y_getI (v := 0) 8 3 rfl f_4_77 rfl (congrArg Prod.fst (F.1 49 (8, 4) rfl rfl)) (F.2.2.1 6275 0 rfl rfl) ?_
                      refine x_inst (N := m_J9_min_7cf53) (As := [.int 40, .int 0]) (st := []) (d' := 96) (mc := 0) (ms := 0) (host := "") rfl t_J9_min_7cf53 ⟨Or.inl q_4_82, s_J9_min_7cf53⟩ rfl (by decide) rfl rfl ⟨by decide, by decide⟩ (jC.of rfl k_J9_min_7cf53 rfl ?_)
                      show jX m_J9_min_7cf53 96 0 0 0 [(0, .int 40), (1, .int 0)] [] _ 0 0 _
                      refine x_iloadn (x := 40) rfl rfl ?_
                      refine x_iloadn (x := 0) rfl rfl ?_
                      refine x_icgt (tgt := 9) rfl rfl (br_t (by decide) ?_)
                      refine x_iloadn (x := 0) rfl rfl ?_
                      refine x_iret rfl rfl ?_
                      show jX m_X4_houses 97 0 0 15 [(0, .ref 107)] [.int 0] _ 0 0 _
                      refine x_iret rfl rfl ?_
                      show jX m_X4_share 98 0 0 23 [(6, .int 0), (4, .long 0), (0, .ref 107), (1, .int 0), (2, .long 0)] [.int 0, .int 0] _ 0 0 _
                      refine x_icge (tgt := 113) rfl rfl (br_t (by decide) ?_)
                      refine x_iconst (v := 0) rfl ki_0 ?_
                      refine x_istore (ls' := [(6, .int 0), (4, .long 0), (0, .ref 107), (1, .int 0), (2, .long 0)]) rfl rfl rfl ?_
                      refine x_iload (x := 0) rfl rfl ?_
                      refine x_bipush (v := 40) rfl kb_40 ?_
                      refine x_icge (tgt := 175) rfl rfl (br_f (by decide) ?_)
                      refine x_lload (x := 0) rfl rfl ?_
                      refine x_lconst (v := 0) rfl kl_0 ?_
                      refine y_lcmp (v := 0) rfl (by decide) ?_
                      refine x_ifle (tgt := 175) rfl rfl (br_t (by decide) ?_)
                      refine x_vret rfl rfl ?_
                      show jX m_X4_partOut 99 0 0 195 [(7, .int 0), (5, .long 0), (4, .int 0), (3, .int 0), (0, .ref 107), (1, .int a1), (2, .int a4)] [] _ 0 0 _
                      refine x_iconst (v := 0) rfl ki_0 ?_
                      refine x_istore (ls' := [(7, .int 0), (5, .long 0), (4, .int 0), (3, .int 0), (0, .ref 107), (1, .int a1), (2, .int a4)]) rfl rfl rfl ?_
                      refine x_iload (x := 0) rfl rfl ?_
                      refine x_aloadn (x := 107) rfl rfl ?_
                      refine x_inv (N := m_X4_houses) (As := []) (b := 107) (st := [.int 0]) (d' := 98) (mc := 0) (ms := 0) (host := "") 4 rfl t_X4_houses ⟨Or.inl q_4_107, i_X4_houses.1, i_X4_houses.2⟩ ⟨by decide, rfl⟩ (congrArg Prod.fst (F.1 107 (4, 18) rfl rfl)) rfl (by decide) rfl rfl ⟨by decide, by decide⟩ (jC.of rfl k_X4_houses rfl ?_)
                      show jX m_X4_houses 98 0 0 0 [(0, .ref 107)] [] _ 0 0 _
                      refine x_bipush (v := 40) rfl kb_40 ?_
                      refine x_aloadn (x := 107) rfl rfl ?_
                      refine x_getR (b := 32) 4 0 rfl f_4_59 rfl (congrArg Prod.fst (F.1 107 (4, 18) rfl rfl)) (F.2.1 13696 32 rfl rfl) ?_
                      refine x_getR (b := 49) 1 8 rfl f_4_71 rfl (congrArg Prod.fst (F.1 32 (1, 20) rfl rfl)) (F.2.1 4104 49 rfl rfl) ?_
                      refine y_getI (v := 0) 8 3 rfl f_4_77 rfl (congrArg Prod.fst (F.1 49 (8, 4) rfl rfl)) (F.2.2.1 6275 0 rfl rfl) ?_
                      refine x_inst (N := m_J9_min_7cf53) (As := [.int 40, .int 0]) (st := []) (d' := 97) (mc := 0) (ms := 0) (host := "") rfl t_J9_min_7cf53 ⟨Or.inl q_4_82, s_J9_min_7cf53⟩ rfl (by decide) rfl rfl ⟨by decide, by decide⟩ (jC.of rfl k_J9_min_7cf53 rfl ?_)
                      show jX m_J9_min_7cf53 97 0 0 0 [(0, .int 40), (1, .int 0)] [] _ 0 0 _
                      refine x_iloadn (x := 40) rfl rfl ?_
                      refine x_iloadn (x := 0) rfl rfl ?_
                      refine x_icgt (tgt := 9) rfl rfl (br_t (by decide) ?_)
                      refine x_iloadn (x := 0) rfl rfl ?_
                      refine x_iret rfl rfl ?_
                      show jX m_X4_houses 98 0 0 15 [(0, .ref 107)] [.int 0] _ 0 0 _
                      refine x_iret rfl rfl ?_
                      show jX m_X4_partOut 99 0 0 204 [(7, .int 0), (5, .long 0), (4, .int 0), (3, .int 0), (0, .ref 107), (1, .int a1), (2, .int a4)] [.int 0, .int 0] _ 0 0 _
                      refine x_icge (tgt := 275) rfl rfl (br_t (by decide) ?_)
                      refine x_vret rfl rfl ?_
                      show jX m_X11_arrear 100 0 0 62 [(0, .ref 31), (1, .int a1), (2, .int a2), (3, .int a3), (4, .int a4)] [] _ 0 0 _
                      refine x_aloadn (x := 31) rfl rfl ?_
                      refine x_getR (b := 107) 11 8 rfl f_11_75 rfl (congrArg Prod.fst (F.1 31 (11, 13) rfl rfl)) (F.2.1 3976 107 rfl rfl) ?_
                      refine x_getR (b := 108) 4 3 rfl f_11_449 rfl (congrArg Prod.fst (F.1 107 (4, 18) rfl rfl)) (F.2.1 13699 108 rfl rfl) ?_
                      refine x_iloadn (x := a2) rfl rfl ?_
                      refine y_iald (v := 0) (N := 40) a2.toNatClampNeg rfl (F.1 108 (100, 40) rfl rfl) (vpi (by omega)) rfl (F.2.2.2.1 108 rfl rfl _).1 ?_
                      refine x_istore (ls' := [(5, .int 0), (0, .ref 31), (1, .int a1), (2, .int a2), (3, .int a3), (4, .int a4)]) rfl rfl rfl ?_
                      refine x_iconst (v := 0) rfl ki_0 ?_
                      refine x_istore (ls' := [(6, .int 0), (5, .int 0), (0, .ref 31), (1, .int a1), (2, .int a2), (3, .int a3), (4, .int a4)]) rfl rfl rfl ?_
                      refine x_iload (x := 0) rfl rfl ?_
                      refine x_aloadn (x := 31) rfl rfl ?_
                      refine x_getR (b := 32) 11 0 rfl f_11_10 rfl (congrArg Prod.fst (F.1 31 (11, 13) rfl rfl)) (F.2.1 3968 32 rfl rfl) ?_
                      refine x_getR (b := 55) 1 11 rfl f_11_452 rfl (congrArg Prod.fst (F.1 32 (1, 20) rfl rfl)) (F.2.1 4107 55 rfl rfl) ?_
                      refine y_getI (v := 0) 8 3 rfl f_11_142 rfl (congrArg Prod.fst (F.1 55 (8, 4) rfl rfl)) (F.2.2.1 7043 0 rfl rfl) ?_
                      refine x_icge (tgt := 183) rfl rfl (br_t (by decide) ?_)
                      refine x_iload (x := 0) rfl rfl ?_
                      refine x_iret rfl rfl ?_
                      exact jqe (show sp_arrear a1 a2 a3 a4 = 0 by unfold sp_arrear; (repeat' split) <;> first | rfl | (exfalso; omega)) (hQ _ (by repeat (first | exact FM | refine jFb_si rfl ?_ | refine jFb_sl rfl ?_ | refine jFb_ci rfl ?_ | refine jFb_cl rfl ?_ | refine jFb_sr rfl ?_)) (by repeat (first | exact O | refine jOl_si rfl ?_ | refine jOl_sl rfl ?_ | refine jOl_ci rfl ?_ | refine jOl_cl rfl ?_ | refine jOl_sr rfl ?_)))
set_option maxRecDepth 100000 in
set_option maxHeartbeats 40000000 in
theorem pm_arrear (a1 a2 a3 a4 : Int32) {xs : Nat → Int32} {h : jH} {Q : Option Value → jH → Prop} (F : jFb 125 h) (O : jOl 7 xs h) (hQ : ∀ h', jOl 7 xs h' → Q (some (.int (sp_arrear a1 a2 a3 a4))) h') : jC m_X12_arrear 100 0 0 [.ref 125, .int a1, .int a2, .int a3, .int a4] h Q := by
  refine jC.of rfl k_X12_arrear rfl ?_
  show jX m_X12_arrear 100 0 0 0 [(0, .ref 125), (1, .int a1), (2, .int a2), (3, .int a3), (4, .int a4)] [] _ 0 0 _
  refine x_aloadn (x := 125) rfl rfl ?_
  refine x_iconst (v := 0) rfl ki_0 ?_
  refine x_putI 12 0 rfl f_12_180 rfl (jfin_no TX12 RX12 92 rfl rfl) (congrArg Prod.fst (F.1 125 (12, 92) rfl rfl)) rfl ?_
  refine x_aloadn (x := 125) rfl rfl ?_
  refine x_iloadn (x := a1) rfl rfl ?_
  refine x_inv (N := m_X12_isLevy) (As := [.int a1]) (b := 125) (st := []) (d' := 99) (mc := 0) (ms := 0) (host := "") 12 rfl t_X12_isLevy ⟨Or.inl q_12_824, i_X12_isLevy.1, i_X12_isLevy.2⟩ ⟨by decide, rfl⟩ (congrArg Prod.fst (F.1 125 (12, 92) rfl rfl)) rfl (by decide) rfl rfl ⟨by decide, by decide⟩ (jC.of rfl k_X12_isLevy rfl ?_)
  show jX m_X12_isLevy 99 0 0 0 [(0, .ref 125), (1, .int a1)] [] _ 0 0 _
  refine x_iloadn (x := a1) rfl rfl ?_
  refine x_i2l rfl ?_
  refine x_lconst (v := 0) rfl kl_0 ?_
  refine x_aloadn (x := 125) rfl rfl ?_
  refine x_getR (b := 126) 12 2 rfl f_12_8 rfl (congrArg Prod.fst (F.1 125 (12, 92) rfl rfl)) (F.2.1 16002 126 rfl rfl) ?_
  refine x_bipush (v := 11) rfl kb_11 ?_
  refine y_iald (v := 0) (N := 50660) 11 rfl (F.1 126 (100, 50660) rfl rfl) (jinb_of (by decide)) (by decide) (F.2.2.2.1 126 rfl rfl 11).1 ?_
  refine y_i2l (v := 0) rfl (by decide) ?_
  refine x_lconst (v := 1) rfl kl_1 ?_
  refine y_lsub (v := (-1)) rfl (by decide) ?_
  refine x_inst (N := m_X12_in) (As := [.long (a1.toInt64), .long 0, .long (-1)]) (st := []) (d' := 98) (mc := 0) (ms := 0) (host := "") rfl t_X12_in ⟨Or.inl q_12_188, s_X12_in⟩ rfl (by decide) rfl rfl ⟨by decide, by decide⟩ (c_X12_in (jt_l _) (by decide) (by decide) ?_)
  show jX m_X12_isLevy 99 0 0 16 [(0, .ref 125), (1, .int a1)] [.int (jp (0 ≤ a1.toInt ∧ a1.toInt ≤ (-1)))] _ 0 0 _
  refine x_zret rfl rfl (by first | decide | exact jp_01 _) ?_
  show jX m_X12_arrear 100 0 0 10 [(0, .ref 125), (1, .int a1), (2, .int a2), (3, .int a3), (4, .int a4)] [.int (jp (0 ≤ a1.toInt ∧ a1.toInt ≤ (-1)))] _ 0 0 _
  refine x_ifeq (tgt := 55) rfl rfl (jpe ⟨fun c1 => ?_, fun c1 => ?_⟩)
  ·
    refine x_ldcw (v := (-2000000000)) rfl z_12_831 ?_
    refine x_iret rfl rfl ?_
    exact jqe (show sp_arrear a1 a2 a3 a4 = (-2000000000) by unfold sp_arrear; (repeat' split) <;> first | rfl | (exfalso; omega)) (hQ _ (by repeat (first | exact O | refine jOl_si rfl ?_ | refine jOl_sl rfl ?_ | refine jOl_ci rfl ?_ | refine jOl_cl rfl ?_ | refine jOl_sr rfl ?_)))
  ·
    refine x_aloadn (x := 125) rfl rfl ?_
    refine x_iloadn (x := a2) rfl rfl ?_
    refine x_inv (N := m_X12_isHolding) (As := [.int a2]) (b := 125) (st := []) (d' := 99) (mc := 0) (ms := 0) (host := "") 12 rfl t_X12_isHolding ⟨Or.inl q_12_811, i_X12_isHolding.1, i_X12_isHolding.2⟩ ⟨by decide, rfl⟩ (congrArg Prod.fst (F.1 125 (12, 92) rfl rfl)) rfl (by decide) rfl rfl ⟨by decide, by decide⟩ (jC.of rfl k_X12_isHolding rfl ?_)
    show jX m_X12_isHolding 99 0 0 0 [(0, .ref 125), (1, .int a2)] [] _ 0 0 _
    refine x_iloadn (x := a2) rfl rfl ?_
    refine x_i2l rfl ?_
    refine x_lconst (v := 0) rfl kl_0 ?_
    refine x_aloadn (x := 125) rfl rfl ?_
    refine x_getR (b := 126) 12 2 rfl f_12_8 rfl (congrArg Prod.fst (F.1 125 (12, 92) rfl rfl)) (F.2.1 16002 126 rfl rfl) ?_
    refine x_bipush (v := 7) rfl kb_7 ?_
    refine y_iald (v := 0) (N := 50660) 7 rfl (F.1 126 (100, 50660) rfl rfl) (jinb_of (by decide)) (by decide) (F.2.2.2.1 126 rfl rfl 7).1 ?_
    refine y_i2l (v := 0) rfl (by decide) ?_
    refine x_lconst (v := 1) rfl kl_1 ?_
    refine y_lsub (v := (-1)) rfl (by decide) ?_
    refine x_inst (N := m_X12_in) (As := [.long (a2.toInt64), .long 0, .long (-1)]) (st := []) (d' := 98) (mc := 0) (ms := 0) (host := "") rfl t_X12_in ⟨Or.inl q_12_188, s_X12_in⟩ rfl (by decide) rfl rfl ⟨by decide, by decide⟩ (c_X12_in (jt_l _) (by decide) (by decide) ?_)
    show jX m_X12_isHolding 99 0 0 16 [(0, .ref 125), (1, .int a2)] [.int (jp (0 ≤ a2.toInt ∧ a2.toInt ≤ (-1)))] _ 0 0 _
    refine x_zret rfl rfl (by first | decide | exact jp_01 _) ?_
    show jX m_X12_arrear 100 0 0 18 [(0, .ref 125), (1, .int a1), (2, .int a2), (3, .int a3), (4, .int a4)] [.int (jp (0 ≤ a2.toInt ∧ a2.toInt ≤ (-1)))] _ 0 0 _
    refine x_ifeq (tgt := 55) rfl rfl (jpe ⟨fun c2 => ?_, fun c2 => ?_⟩)
    ·
      refine x_ldcw (v := (-2000000000)) rfl z_12_831 ?_
      refine x_iret rfl rfl ?_
      exact jqe (show sp_arrear a1 a2 a3 a4 = (-2000000000) by unfold sp_arrear; (repeat' split) <;> first | rfl | (exfalso; omega)) (hQ _ (by repeat (first | exact O | refine jOl_si rfl ?_ | refine jOl_sl rfl ?_ | refine jOl_ci rfl ?_ | refine jOl_cl rfl ?_ | refine jOl_sr rfl ?_)))
    ·
      refine x_iloadn (x := a3) rfl rfl ?_
      refine x_inst (N := m_X12_isDay) (As := [.int a3]) (st := []) (d' := 99) (mc := 0) (ms := 0) (host := "") rfl t_X12_isDay ⟨Or.inl q_12_273, s_X12_isDay⟩ rfl (by decide) rfl rfl ⟨by decide, by decide⟩ (c_X12_isDay (x := a3) ?_)
      show jX m_X12_arrear 100 0 0 25 [(0, .ref 125), (1, .int a1), (2, .int a2), (3, .int a3), (4, .int a4)] [.int (jp (0 ≤ a3.toInt ∧ a3.toInt ≤ 146399))] _ 0 0 _
      refine x_ifeq (tgt := 55) rfl rfl (jpe ⟨fun c3 => ?_, fun c3 => ?_⟩)
      ·
        refine x_ldcw (v := (-2000000000)) rfl z_12_831 ?_
        refine x_iret rfl rfl ?_
        exact jqe (show sp_arrear a1 a2 a3 a4 = (-2000000000) by unfold sp_arrear; (repeat' split) <;> first | rfl | (exfalso; omega)) (hQ _ (by repeat (first | exact O | refine jOl_si rfl ?_ | refine jOl_sl rfl ?_ | refine jOl_ci rfl ?_ | refine jOl_cl rfl ?_ | refine jOl_sr rfl ?_)))
      ·
        refine x_iload (x := a4) rfl rfl ?_
        refine x_inst (N := m_X12_isDay) (As := [.int a4]) (st := []) (d' := 99) (mc := 0) (ms := 0) (host := "") rfl t_X12_isDay ⟨Or.inl q_12_273, s_X12_isDay⟩ rfl (by decide) rfl rfl ⟨by decide, by decide⟩ (c_X12_isDay (x := a4) ?_)
        show jX m_X12_arrear 100 0 0 33 [(0, .ref 125), (1, .int a1), (2, .int a2), (3, .int a3), (4, .int a4)] [.int (jp (0 ≤ a4.toInt ∧ a4.toInt ≤ 146399))] _ 0 0 _
        refine x_ifeq (tgt := 55) rfl rfl (jpe ⟨fun c4 => ?_, fun c4 => ?_⟩)
        ·
          refine x_ldcw (v := (-2000000000)) rfl z_12_831 ?_
          refine x_iret rfl rfl ?_
          exact jqe (show sp_arrear a1 a2 a3 a4 = (-2000000000) by unfold sp_arrear; (repeat' split) <;> first | rfl | (exfalso; omega)) (hQ _ (by repeat (first | exact O | refine jOl_si rfl ?_ | refine jOl_sl rfl ?_ | refine jOl_ci rfl ?_ | refine jOl_cl rfl ?_ | refine jOl_sr rfl ?_)))
        ·
          refine x_aloadn (x := 125) rfl rfl ?_
          refine x_getR (b := 126) 12 2 rfl f_12_8 rfl (congrArg Prod.fst (F.1 125 (12, 92) rfl rfl)) (F.2.1 16002 126 rfl rfl) ?_
          refine x_ldcw (v := 48300) rfl z_12_820 ?_
          refine x_iconst (v := 4) rfl ki_4 ?_
          refine x_iloadn (x := a1) rfl rfl ?_
          refine x_imul rfl ?_
          refine x_iadd rfl ?_
          refine x_iconst (v := 3) rfl ki_3 ?_
          refine x_iadd rfl ?_
          refine y_iald (v := 0) (N := 50660) ((48300 + (4 * a1)) + 3).toNatClampNeg rfl (F.1 126 (100, 50660) rfl rfl) (vpi (by omega)) rfl (F.2.2.2.1 126 rfl rfl _).1 ?_
          refine x_iload (x := a4) rfl rfl ?_
          refine x_icle (tgt := 59) rfl rfl (ti_le (show (0 : Int32).toInt = 0 by decide) (show (a4 : Int32).toInt = a4.toInt from rfl) ⟨fun c5 => ?_, fun c5 => ?_⟩)
          ·
            refine x_aloadn (x := 125) rfl rfl ?_
            refine x_iload (x := a4) rfl rfl ?_
            refine x_inv (N := m_X12_find) (As := [.int a4]) (b := 125) (st := []) (d' := 99) (mc := 0) (ms := 0) (host := "") 12 rfl t_X12_find ⟨Or.inl q_12_393, i_X12_find.1, i_X12_find.2⟩ ⟨by decide, rfl⟩ (congrArg Prod.fst (F.1 125 (12, 92) rfl rfl)) rfl (by decide) rfl rfl ⟨by decide, by decide⟩ (jC.of rfl k_X12_find rfl ?_)
            show jX m_X12_find 99 0 0 0 [(0, .ref 125), (1, .int a4)] [] _ 0 0 _
            refine x_aloadn (x := 125) rfl rfl ?_
            refine x_iloadn (x := a4) rfl rfl ?_
            refine x_putI 12 28 rfl f_12_377 rfl (jfin_no TX12 RX12 92 rfl rfl) (congrArg Prod.fst (F.1 125 (12, 92) rfl rfl)) rfl ?_
            refine x_aloadn (x := 125) rfl rfl ?_
            refine x_iconst (v := 0) rfl ki_0 ?_
            refine x_putI 12 31 rfl f_12_380 rfl (jfin_no TX12 RX12 92 rfl rfl) (congrArg Prod.fst (F.1 125 (12, 92) rfl rfl)) rfl ?_
            refine x_aloadn (x := 125) rfl rfl ?_
            refine x_iconst (v := (-1)) rfl ki_m1 ?_
            refine x_putI 12 57 rfl f_12_111 rfl (jfin_no TX12 RX12 92 rfl rfl) (congrArg Prod.fst (F.1 125 (12, 92) rfl rfl)) rfl ?_
            refine x_iconst (v := 0) rfl ki_0 ?_
            refine x_istoren (ls' := [(2, .int 0), (0, .ref 125), (1, .int a4)]) rfl rfl rfl ?_
            refine x_iloadn (x := 0) rfl rfl ?_
            refine x_iconst (v := 3) rfl ki_3 ?_
            refine x_aloadn (x := 125) rfl rfl ?_
            refine x_getR (b := 126) 12 2 rfl f_12_8 rfl (congrArg Prod.fst (F.1 125 (12, 92) rfl rfl)) (F.2.1 16002 126 rfl rfl) ?_
            refine x_iconst (v := 0) rfl ki_0 ?_
            refine y_iald (v := 0) (N := 50660) 0 rfl (F.1 126 (100, 50660) rfl rfl) (jinb_of (by decide)) (by decide) (F.2.2.2.1 126 rfl rfl 0).1 ?_
            refine y_imul (v := 0) rfl (by decide) ?_
            refine x_icge (tgt := 65) rfl rfl (br_t (by decide) ?_)
            refine x_iconst (v := 0) rfl ki_0 ?_
            refine x_istoren (ls' := [(2, .int 0), (0, .ref 125), (1, .int a4)]) rfl rfl rfl ?_
            refine x_iloadn (x := 0) rfl rfl ?_
            refine x_aloadn (x := 125) rfl rfl ?_
            refine x_getR (b := 126) 12 2 rfl f_12_8 rfl (congrArg Prod.fst (F.1 125 (12, 92) rfl rfl)) (F.2.1 16002 126 rfl rfl) ?_
            refine x_iconst (v := 2) rfl ki_2 ?_
            refine y_iald (v := 0) (N := 50660) 2 rfl (F.1 126 (100, 50660) rfl rfl) (jinb_of (by decide)) (by decide) (F.2.2.2.1 126 rfl rfl 2).1 ?_
            refine x_icge (tgt := 227) rfl rfl (br_t (by decide) ?_)
            refine x_vret rfl rfl ?_
            show jX m_X12_arrear 100 0 0 65 [(0, .ref 125), (1, .int a1), (2, .int a2), (3, .int a3), (4, .int a4)] [] _ 0 0 _
            refine x_aloadn (x := 125) rfl rfl ?_
            refine x_iloadn (x := a1) rfl rfl ?_
            refine x_inv (N := m_X12_partLevy) (As := [.int a1]) (b := 125) (st := []) (d' := 99) (mc := 0) (ms := 0) (host := "") 12 rfl t_X12_partLevy ⟨Or.inl q_12_827, i_X12_partLevy.1, i_X12_partLevy.2⟩ ⟨by decide, rfl⟩ (congrArg Prod.fst (F.1 125 (12, 92) rfl rfl)) rfl (by decide) rfl rfl ⟨by decide, by decide⟩ (jC.of rfl k_X12_partLevy rfl ?_)
            show jX m_X12_partLevy 99 0 0 0 [(0, .ref 125), (1, .int a1)] [] _ 0 0 _
            refine x_ldcw (v := 48300) rfl z_12_820 ?_
            refine x_iconst (v := 4) rfl ki_4 ?_
            refine x_iloadn (x := a1) rfl rfl ?_
            refine x_imul rfl ?_
            refine x_iadd rfl ?_
            refine x_istoren (ls' := [(2, .int (48300 + (4 * a1))), (0, .ref 125), (1, .int a1)]) rfl rfl rfl ?_
            refine x_aloadn (x := 125) rfl rfl ?_
            refine x_getR (b := 126) 12 2 rfl f_12_8 rfl (congrArg Prod.fst (F.1 125 (12, 92) rfl rfl)) (F.2.1 16002 126 rfl rfl) ?_
            refine x_iloadn (x := 48300 + (4 * a1)) rfl rfl ?_
            refine y_iald (v := 0) (N := 50660) (48300 + (4 * a1)).toNatClampNeg rfl (F.1 126 (100, 50660) rfl rfl) (vpi (by omega)) rfl (F.2.2.2.1 126 rfl rfl _).1 ?_
            refine x_istoren (ls' := [(3, .int 0), (2, .int (48300 + (4 * a1))), (0, .ref 125), (1, .int a1)]) rfl rfl rfl ?_
            refine x_aloadn (x := 125) rfl rfl ?_
            refine x_getR (b := 126) 12 2 rfl f_12_8 rfl (congrArg Prod.fst (F.1 125 (12, 92) rfl rfl)) (F.2.1 16002 126 rfl rfl) ?_
            refine x_iloadn (x := 48300 + (4 * a1)) rfl rfl ?_
            refine x_iconst (v := 1) rfl ki_1 ?_
            refine x_iadd rfl ?_
            refine y_iald (v := 0) (N := 50660) ((48300 + (4 * a1)) + 1).toNatClampNeg rfl (F.1 126 (100, 50660) rfl rfl) (vpi (by omega)) rfl (F.2.2.2.1 126 rfl rfl _).1 ?_
            refine x_sipush (v := 366) rfl ks_366 ?_
            refine y_imul (v := 0) rfl (by decide) ?_
            refine x_istore (ls' := [(4, .int 0), (3, .int 0), (2, .int (48300 + (4 * a1))), (0, .ref 125), (1, .int a1)]) rfl rfl rfl ?_
            refine x_aloadn (x := 125) rfl rfl ?_
            refine x_getR (b := 126) 12 2 rfl f_12_8 rfl (congrArg Prod.fst (F.1 125 (12, 92) rfl rfl)) (F.2.1 16002 126 rfl rfl) ?_
            refine x_bipush (v := 7) rfl kb_7 ?_
            refine y_iald (v := 0) (N := 50660) 7 rfl (F.1 126 (100, 50660) rfl rfl) (jinb_of (by decide)) (by decide) (F.2.2.2.1 126 rfl rfl 7).1 ?_
            refine x_istore (ls' := [(5, .int 0), (4, .int 0), (3, .int 0), (2, .int (48300 + (4 * a1))), (0, .ref 125), (1, .int a1)]) rfl rfl rfl ?_
            refine x_aloadn (x := 125) rfl rfl ?_
            refine x_iload (x := 0) rfl rfl ?_
            refine x_iconst (v := 1) rfl ki_1 ?_
            refine x_inv (N := m_X12_findHouses) (As := [.int 0, .int 1]) (b := 125) (st := []) (d' := 98) (mc := 0) (ms := 0) (host := "") 12 rfl t_X12_findHouses ⟨Or.inl q_12_694, i_X12_findHouses.1, i_X12_findHouses.2⟩ ⟨by decide, rfl⟩ (congrArg Prod.fst (F.1 125 (12, 92) rfl rfl)) rfl (by decide) rfl rfl ⟨by decide, by decide⟩ (jC.of rfl k_X12_findHouses rfl ?_)
            show jX m_X12_findHouses 98 0 0 0 [(0, .ref 125), (1, .int 0), (2, .int 1)] [] _ 0 0 _
            refine x_aloadn (x := 125) rfl rfl ?_
            refine x_getR (b := 126) 12 2 rfl f_12_8 rfl (congrArg Prod.fst (F.1 125 (12, 92) rfl rfl)) (F.2.1 16002 126 rfl rfl) ?_
            refine x_bipush (v := 7) rfl kb_7 ?_
            refine y_iald (v := 0) (N := 50660) 7 rfl (F.1 126 (100, 50660) rfl rfl) (jinb_of (by decide)) (by decide) (F.2.2.2.1 126 rfl rfl 7).1 ?_
            refine x_istoren (ls' := [(3, .int 0), (0, .ref 125), (1, .int 0), (2, .int 1)]) rfl rfl rfl ?_
            refine x_iconst (v := 0) rfl ki_0 ?_
            refine x_istore (ls' := [(4, .int 0), (3, .int 0), (0, .ref 125), (1, .int 0), (2, .int 1)]) rfl rfl rfl ?_
            refine x_iload (x := 0) rfl rfl ?_
            refine x_iloadn (x := 0) rfl rfl ?_
            refine x_icge (tgt := 72) rfl rfl (br_t (by decide) ?_)
            refine x_iconst (v := 0) rfl ki_0 ?_
            refine x_istore (ls' := [(4, .int 0), (3, .int 0), (0, .ref 125), (1, .int 0), (2, .int 1)]) rfl rfl rfl ?_
            refine x_iload (x := 0) rfl rfl ?_
            refine x_iloadn (x := 0) rfl rfl ?_
            refine x_icge (tgt := 323) rfl rfl (br_t (by decide) ?_)
            refine x_vret rfl rfl ?_
            show jX m_X12_partLevy 99 0 0 45 [(5, .int 0), (4, .int 0), (3, .int 0), (2, .int (48300 + (4 * a1))), (0, .ref 125), (1, .int a1)] [] _ 0 0 _
            refine x_lconst (v := 0) rfl kl_0 ?_
            refine x_lstore (ls' := [(6, .long 0), (5, .int 0), (4, .int 0), (3, .int 0), (2, .int (48300 + (4 * a1))), (0, .ref 125), (1, .int a1)]) rfl rfl rfl ?_
            refine x_iconst (v := 0) rfl ki_0 ?_
            refine x_istore (ls' := [(8, .int 0), (6, .long 0), (5, .int 0), (4, .int 0), (3, .int 0), (2, .int (48300 + (4 * a1))), (0, .ref 125), (1, .int a1)]) rfl rfl rfl ?_
            refine x_iload (x := 0) rfl rfl ?_
            refine x_iload (x := 0) rfl rfl ?_
            refine x_icge (tgt := 171) rfl rfl (br_t (by decide) ?_)
            refine x_lload (x := 0) rfl rfl ?_
            refine x_lconst (v := 0) rfl kl_0 ?_
            refine y_lcmp (v := 0) rfl (by decide) ?_
            refine x_ifne (tgt := 182) rfl rfl (bn_f (by decide) ?_)
            refine x_lconst (v := 0) rfl kl_0 ?_
            refine x_goto (tgt := 191) rfl rfl ?_
            refine x_lstore (ls' := [(8, .long 0), (6, .long 0), (5, .int 0), (4, .int 0), (3, .int 0), (2, .int (48300 + (4 * a1))), (0, .ref 125), (1, .int a1)]) rfl rfl rfl ?_
            refine x_iconst (v := 0) rfl ki_0 ?_
            refine x_istore (ls' := [(10, .int 0), (8, .long 0), (6, .long 0), (5, .int 0), (4, .int 0), (3, .int 0), (2, .int (48300 + (4 * a1))), (0, .ref 125), (1, .int a1)]) rfl rfl rfl ?_
            refine x_iload (x := 0) rfl rfl ?_
            refine x_iload (x := 0) rfl rfl ?_
            refine x_icge (tgt := 293) rfl rfl (br_t (by decide) ?_)
            refine x_lload (x := 0) rfl rfl ?_
            refine x_lconst (v := 0) rfl kl_0 ?_
            refine y_lcmp (v := 0) rfl (by decide) ?_
            refine x_ifle (tgt := 393) rfl rfl (br_t (by decide) ?_)
            refine x_iconst (v := 0) rfl ki_0 ?_
            refine x_istore (ls' := [(10, .int 0), (8, .long 0), (6, .long 0), (5, .int 0), (4, .int 0), (3, .int 0), (2, .int (48300 + (4 * a1))), (0, .ref 125), (1, .int a1)]) rfl rfl rfl ?_
            refine x_iload (x := 0) rfl rfl ?_
            refine x_iload (x := 0) rfl rfl ?_
            refine x_icge (tgt := 496) rfl rfl (br_t (by decide) ?_)
            refine x_vret rfl rfl ?_
            show jX m_X12_arrear 100 0 0 70 [(0, .ref 125), (1, .int a1), (2, .int a2), (3, .int a3), (4, .int a4)] [] _ 0 0 _
            refine x_aloadn (x := 125) rfl rfl ?_
            refine x_getR (b := 165) 12 80 rfl f_12_153 rfl (congrArg Prod.fst (F.1 125 (12, 92) rfl rfl)) (F.2.1 16080 165 rfl rfl) ?_
            refine x_iloadn (x := a2) rfl rfl ?_
            refine y_lald (v := 0) (N := 40) a2.toNatClampNeg rfl (F.1 165 (101, 40) rfl rfl) (vpi (by omega)) rfl (F.2.2.2.1 165 rfl rfl _).2 ?_
            refine y_l2i (v := 0) rfl (by decide) ?_
            refine x_istore (ls' := [(5, .int 0), (0, .ref 125), (1, .int a1), (2, .int a2), (3, .int a3), (4, .int a4)]) rfl rfl rfl ?_
            refine x_iconst (v := 0) rfl ki_0 ?_
            refine x_istore (ls' := [(6, .int 0), (5, .int 0), (0, .ref 125), (1, .int a1), (2, .int a2), (3, .int a3), (4, .int a4)]) rfl rfl rfl ?_
            refine x_iload (x := 0) rfl rfl ?_
            refine x_aloadn (x := 125) rfl rfl ?_
            refine x_getR (b := 126) 12 2 rfl f_12_8 rfl (congrArg Prod.fst (F.1 125 (12, 92) rfl rfl)) (F.2.1 16002 126 rfl rfl) ?_
            refine x_bipush (v := 12) rfl kb_12 ?_
            refine y_iald (v := 0) (N := 50660) 12 rfl (F.1 126 (100, 50660) rfl rfl) (jinb_of (by decide)) (by decide) (F.2.2.2.1 126 rfl rfl 12).1 ?_
            refine x_icge (tgt := 179) rfl rfl (br_t (by decide) ?_)
            refine x_iload (x := 0) rfl rfl ?_
            refine x_iret rfl rfl ?_
            exact jqe (show sp_arrear a1 a2 a3 a4 = 0 by unfold sp_arrear; (repeat' split) <;> first | rfl | (exfalso; omega)) (hQ _ (by repeat (first | exact O | refine jOl_si rfl ?_ | refine jOl_sl rfl ?_ | refine jOl_ci rfl ?_ | refine jOl_cl rfl ?_ | refine jOl_sr rfl ?_)))
          ·
            refine x_ldcw (v := (-2000000000)) rfl z_12_831 ?_
            refine x_iret rfl rfl ?_
            exact jqe (show sp_arrear a1 a2 a3 a4 = (-2000000000) by unfold sp_arrear; (repeat' split) <;> first | rfl | (exfalso; omega)) (hQ _ (by repeat (first | exact O | refine jOl_si rfl ?_ | refine jOl_sl rfl ?_ | refine jOl_ci rfl ?_ | refine jOl_cl rfl ?_ | refine jOl_sr rfl ?_)))
def sp_turn (a1 a2 a3 a4 : Int32) : Int32 := if (0 ≤ a1.toInt ∧ a1.toInt ≤ 3) ∧ (0 ≤ a2.toInt ∧ a2.toInt ≤ 399) ∧ (0 ≤ a3.toInt ∧ a3.toInt ≤ 146399) ∧ (1 ≤ a4.toInt ∧ a4.toInt ≤ 2) then 0 else (-1)
def sp_entry (a1 a2 a3 a4 : Int32) : Int32 := if (0 ≤ a1.toInt ∧ a1.toInt ≤ 3) ∧ (0 ≤ a2.toInt ∧ a2.toInt ≤ 399) ∧ (-1000000 ≤ a3.toInt ∧ a3.toInt ≤ 1000000) ∧ (0 ≤ a4.toInt ∧ a4.toInt ≤ 146399) then 1 else (-1)
set_option maxRecDepth 100000 in
set_option maxHeartbeats 40000000 in
theorem px_entry (a1 a2 a3 a4 : Int32) {xs : Nat → Int32} {h : jH} {Q : Option Value → jH → Prop} (F : jFb 31 h) (O : jOl 7 xs h) (hQ : ∀ h', jFb 125 h' → jOl 7 xs h' → Q (some (.int (sp_entry a1 a2 a3 a4))) h') : jC m_X11_entry 100 0 0 [.ref 31, .int a1, .int a2, .int a3, .int a4] h Q := by
  have FM := jFb_up 125 rfl F
  refine jC.of rfl k_X11_entry rfl ?_
  show jX m_X11_entry 100 0 0 0 [(0, .ref 31), (1, .int a1), (2, .int a2), (3, .int a3), (4, .int a4)] [] _ 0 0 _
  refine x_iloadn (x := a1) rfl rfl ?_
  refine x_inst (N := m_X11_isOffice) (As := [.int a1]) (st := []) (d' := 99) (mc := 0) (ms := 0) (host := "") rfl t_X11_isOffice ⟨Or.inl q_11_456, s_X11_isOffice⟩ rfl (by decide) rfl rfl ⟨by decide, by decide⟩ (c_X11_isOffice (x := a1) ?_)
  show jX m_X11_entry 100 0 0 4 [(0, .ref 31), (1, .int a1), (2, .int a2), (3, .int a3), (4, .int a4)] [.int (jp (0 ≤ a1.toInt ∧ a1.toInt ≤ 3))] _ 0 0 _
  refine x_ifeq (tgt := 35) rfl rfl (jpe ⟨fun c1 => ?_, fun c1 => ?_⟩)
  ·
    refine x_aloadn (x := 31) rfl rfl ?_
    refine x_iconst (v := (-1)) rfl ki_m1 ?_
    refine x_inv (N := m_X11_refuse) (As := [.int (-1)]) (b := 31) (st := []) (d' := 99) (mc := 0) (ms := 0) (host := "") 11 rfl t_X11_refuse ⟨Or.inl q_11_206, i_X11_refuse.1, i_X11_refuse.2⟩ ⟨by decide, rfl⟩ (congrArg Prod.fst (F.1 31 (11, 13) rfl rfl)) rfl (by decide) rfl rfl ⟨by decide, by decide⟩ (jC.of rfl k_X11_refuse rfl ?_)
    show jX m_X11_refuse 99 0 0 0 [(0, .ref 31), (1, .int (-1))] [] _ 0 0 _
    refine x_aloadn (x := 31) rfl rfl ?_
    refine x_iloadn (x := (-1)) rfl rfl ?_
    refine x_putI 11 12 rfl f_11_94 rfl (jfin_no TX11 RX11 13 rfl rfl) (congrArg Prod.fst (F.1 31 (11, 13) rfl rfl)) rfl ?_
    refine x_iloadn (x := (-1)) rfl rfl ?_
    refine x_iret rfl rfl ?_
    show jX m_X11_entry 100 0 0 40 [(0, .ref 31), (1, .int a1), (2, .int a2), (3, .int a3), (4, .int a4)] [.int (-1)] _ 0 0 _
    refine x_iret rfl rfl ?_
    exact jqe (show sp_entry a1 a2 a3 a4 = (-1) by unfold sp_entry; (repeat' split) <;> first | rfl | (exfalso; omega)) (hQ _ (by repeat (first | exact FM | refine jFb_si rfl ?_ | refine jFb_sl rfl ?_ | refine jFb_ci rfl ?_ | refine jFb_cl rfl ?_ | refine jFb_sr rfl ?_)) (by repeat (first | exact O | refine jOl_si rfl ?_ | refine jOl_sl rfl ?_ | refine jOl_ci rfl ?_ | refine jOl_cl rfl ?_ | refine jOl_sr rfl ?_)))
  ·
    refine x_iloadn (x := a2) rfl rfl ?_
    refine x_inst (N := m_X11_isYear) (As := [.int a2]) (st := []) (d' := 99) (mc := 0) (ms := 0) (host := "") rfl t_X11_isYear ⟨Or.inl q_11_433, s_X11_isYear⟩ rfl (by decide) rfl rfl ⟨by decide, by decide⟩ (c_X11_isYear (x := a2) ?_)
    show jX m_X11_entry 100 0 0 11 [(0, .ref 31), (1, .int a1), (2, .int a2), (3, .int a3), (4, .int a4)] [.int (jp (0 ≤ a2.toInt ∧ a2.toInt ≤ 399))] _ 0 0 _
    refine x_ifeq (tgt := 35) rfl rfl (jpe ⟨fun c2 => ?_, fun c2 => ?_⟩)
    ·
      refine x_aloadn (x := 31) rfl rfl ?_
      refine x_iconst (v := (-1)) rfl ki_m1 ?_
      refine x_inv (N := m_X11_refuse) (As := [.int (-1)]) (b := 31) (st := []) (d' := 99) (mc := 0) (ms := 0) (host := "") 11 rfl t_X11_refuse ⟨Or.inl q_11_206, i_X11_refuse.1, i_X11_refuse.2⟩ ⟨by decide, rfl⟩ (congrArg Prod.fst (F.1 31 (11, 13) rfl rfl)) rfl (by decide) rfl rfl ⟨by decide, by decide⟩ (jC.of rfl k_X11_refuse rfl ?_)
      show jX m_X11_refuse 99 0 0 0 [(0, .ref 31), (1, .int (-1))] [] _ 0 0 _
      refine x_aloadn (x := 31) rfl rfl ?_
      refine x_iloadn (x := (-1)) rfl rfl ?_
      refine x_putI 11 12 rfl f_11_94 rfl (jfin_no TX11 RX11 13 rfl rfl) (congrArg Prod.fst (F.1 31 (11, 13) rfl rfl)) rfl ?_
      refine x_iloadn (x := (-1)) rfl rfl ?_
      refine x_iret rfl rfl ?_
      show jX m_X11_entry 100 0 0 40 [(0, .ref 31), (1, .int a1), (2, .int a2), (3, .int a3), (4, .int a4)] [.int (-1)] _ 0 0 _
      refine x_iret rfl rfl ?_
      exact jqe (show sp_entry a1 a2 a3 a4 = (-1) by unfold sp_entry; (repeat' split) <;> first | rfl | (exfalso; omega)) (hQ _ (by repeat (first | exact FM | refine jFb_si rfl ?_ | refine jFb_sl rfl ?_ | refine jFb_ci rfl ?_ | refine jFb_cl rfl ?_ | refine jFb_sr rfl ?_)) (by repeat (first | exact O | refine jOl_si rfl ?_ | refine jOl_sl rfl ?_ | refine jOl_ci rfl ?_ | refine jOl_cl rfl ?_ | refine jOl_sr rfl ?_)))
    ·
      refine x_iloadn (x := a3) rfl rfl ?_
      refine x_ldcw (v := (-1000000)) rfl z_11_472 ?_
      refine x_ldcw (v := 1000000) rfl z_11_436 ?_
      refine x_inst (N := m_X11_isWithin) (As := [.int a3, .int (-1000000), .int 1000000]) (st := []) (d' := 99) (mc := 0) (ms := 0) (host := "") rfl t_X11_isWithin ⟨Or.inl q_11_202, s_X11_isWithin⟩ rfl (by decide) rfl rfl ⟨by decide, by decide⟩ (c_X11_isWithin rfl (by decide) (by decide) ?_)
      show jX m_X11_entry 100 0 0 24 [(0, .ref 31), (1, .int a1), (2, .int a2), (3, .int a3), (4, .int a4)] [.int (jp ((-1000000) ≤ a3.toInt ∧ a3.toInt ≤ 1000000))] _ 0 0 _
      refine x_ifeq (tgt := 35) rfl rfl (jpe ⟨fun c3 => ?_, fun c3 => ?_⟩)
      ·
        refine x_aloadn (x := 31) rfl rfl ?_
        refine x_iconst (v := (-1)) rfl ki_m1 ?_
        refine x_inv (N := m_X11_refuse) (As := [.int (-1)]) (b := 31) (st := []) (d' := 99) (mc := 0) (ms := 0) (host := "") 11 rfl t_X11_refuse ⟨Or.inl q_11_206, i_X11_refuse.1, i_X11_refuse.2⟩ ⟨by decide, rfl⟩ (congrArg Prod.fst (F.1 31 (11, 13) rfl rfl)) rfl (by decide) rfl rfl ⟨by decide, by decide⟩ (jC.of rfl k_X11_refuse rfl ?_)
        show jX m_X11_refuse 99 0 0 0 [(0, .ref 31), (1, .int (-1))] [] _ 0 0 _
        refine x_aloadn (x := 31) rfl rfl ?_
        refine x_iloadn (x := (-1)) rfl rfl ?_
        refine x_putI 11 12 rfl f_11_94 rfl (jfin_no TX11 RX11 13 rfl rfl) (congrArg Prod.fst (F.1 31 (11, 13) rfl rfl)) rfl ?_
        refine x_iloadn (x := (-1)) rfl rfl ?_
        refine x_iret rfl rfl ?_
        show jX m_X11_entry 100 0 0 40 [(0, .ref 31), (1, .int a1), (2, .int a2), (3, .int a3), (4, .int a4)] [.int (-1)] _ 0 0 _
        refine x_iret rfl rfl ?_
        exact jqe (show sp_entry a1 a2 a3 a4 = (-1) by unfold sp_entry; (repeat' split) <;> first | rfl | (exfalso; omega)) (hQ _ (by repeat (first | exact FM | refine jFb_si rfl ?_ | refine jFb_sl rfl ?_ | refine jFb_ci rfl ?_ | refine jFb_cl rfl ?_ | refine jFb_sr rfl ?_)) (by repeat (first | exact O | refine jOl_si rfl ?_ | refine jOl_sl rfl ?_ | refine jOl_ci rfl ?_ | refine jOl_cl rfl ?_ | refine jOl_sr rfl ?_)))
      ·
        refine x_iload (x := a4) rfl rfl ?_
        refine x_inst (N := m_X11_isDay) (As := [.int a4]) (st := []) (d' := 99) (mc := 0) (ms := 0) (host := "") rfl t_X11_isDay ⟨Or.inl q_11_115, s_X11_isDay⟩ rfl (by decide) rfl rfl ⟨by decide, by decide⟩ (c_X11_isDay (x := a4) ?_)
        show jX m_X11_entry 100 0 0 32 [(0, .ref 31), (1, .int a1), (2, .int a2), (3, .int a3), (4, .int a4)] [.int (jp (0 ≤ a4.toInt ∧ a4.toInt ≤ 146399))] _ 0 0 _
        refine x_ifne (tgt := 41) rfl rfl (jpn ⟨fun c4 => ?_, fun c4 => ?_⟩)
        ·
          refine x_aloadn (x := 31) rfl rfl ?_
          refine x_getR (b := 32) 11 0 rfl f_11_10 rfl (congrArg Prod.fst (F.1 31 (11, 13) rfl rfl)) (F.2.1 3968 32 rfl rfl) ?_
          refine x_getR (b := 57) 1 12 rfl f_11_473 rfl (congrArg Prod.fst (F.1 32 (1, 20) rfl rfl)) (F.2.1 4108 57 rfl rfl) ?_
          refine x_inv (N := m_X8_isFull) (As := []) (b := 57) (st := []) (d' := 99) (mc := 0) (ms := 0) (host := "") 8 rfl t_X8_isFull ⟨Or.inl q_11_130, i_X8_isFull.1, i_X8_isFull.2⟩ ⟨by decide, rfl⟩ (congrArg Prod.fst (F.1 57 (8, 4) rfl rfl)) rfl (by decide) rfl rfl ⟨by decide, by decide⟩ (jC.of rfl k_X8_isFull rfl ?_)
          show jX m_X8_isFull 99 0 0 0 [(0, .ref 57)] [] _ 0 0 _
          refine x_aloadn (x := 57) rfl rfl ?_
          refine y_getI (v := 0) 8 3 rfl f_8_7 rfl (congrArg Prod.fst (F.1 57 (8, 4) rfl rfl)) (F.2.2.1 7299 0 rfl rfl) ?_
          refine x_aloadn (x := 57) rfl rfl ?_
          refine y_getI (v := 100) 8 1 rfl f_8_22 rfl (congrArg Prod.fst (F.1 57 (8, 4) rfl rfl)) (F.2.2.1 7297 100 rfl rfl) ?_
          refine x_iclt (tgt := 15) rfl rfl (br_t (by decide) ?_)
          refine x_iconst (v := 0) rfl ki_0 ?_
          refine x_zret rfl rfl (by first | decide | exact jp_01 _) ?_
          show jX m_X11_entry 100 0 0 51 [(0, .ref 31), (1, .int a1), (2, .int a2), (3, .int a3), (4, .int a4)] [.int 0] _ 0 0 _
          refine x_ifeq (tgt := 61) rfl rfl (br_t (by decide) ?_)
          refine x_aloadn (x := 31) rfl rfl ?_
          refine x_getR (b := 32) 11 0 rfl f_11_10 rfl (congrArg Prod.fst (F.1 31 (11, 13) rfl rfl)) (F.2.1 3968 32 rfl rfl) ?_
          refine x_getR (b := 57) 1 12 rfl f_11_473 rfl (congrArg Prod.fst (F.1 32 (1, 20) rfl rfl)) (F.2.1 4108 57 rfl rfl) ?_
          refine x_iload (x := a4) rfl rfl ?_
          refine x_iloadn (x := a2) rfl rfl ?_
          refine x_iloadn (x := a1) rfl rfl ?_
          refine x_iloadn (x := a3) rfl rfl ?_
          refine x_iconst (v := 0) rfl ki_0 ?_
          refine x_iconst (v := 0) rfl ki_0 ?_
          refine x_inv (N := m_X8_add) (As := [.int a4, .int a2, .int a1, .int a3, .int 0, .int 0]) (b := 57) (st := []) (d' := 99) (mc := 0) (ms := 0) (host := "") 8 rfl t_X8_add ⟨Or.inl q_11_145, i_X8_add.1, i_X8_add.2⟩ ⟨by decide, rfl⟩ (congrArg Prod.fst (F.1 57 (8, 4) rfl rfl)) rfl (by decide) rfl rfl ⟨by decide, by decide⟩ (jC.of rfl k_X8_add rfl ?_)
          show jX m_X8_add 99 0 0 0 [(0, .ref 57), (1, .int a4), (2, .int a2), (3, .int a1), (4, .int a3), (5, .int 0), (6, .int 0)] [] _ 0 0 _
          refine x_aloadn (x := 57) rfl rfl ?_
          refine y_getI (v := 0) 8 3 rfl f_8_7 rfl (congrArg Prod.fst (F.1 57 (8, 4) rfl rfl)) (F.2.2.1 7299 0 rfl rfl) ?_
          refine x_aloadn (x := 57) rfl rfl ?_
          refine y_getI (v := 100) 8 1 rfl f_8_22 rfl (congrArg Prod.fst (F.1 57 (8, 4) rfl rfl)) (F.2.2.1 7297 100 rfl rfl) ?_
          refine x_iclt (tgt := 12) rfl rfl (br_t (by decide) ?_)
          refine x_aloadn (x := 57) rfl rfl ?_
          refine y_getI (v := 0) 8 3 rfl f_8_7 rfl (congrArg Prod.fst (F.1 57 (8, 4) rfl rfl)) (F.2.2.1 7299 0 rfl rfl) ?_
          refine x_istore (ls' := [(7, .int 0), (0, .ref 57), (1, .int a4), (2, .int a2), (3, .int a1), (4, .int a3), (5, .int 0), (6, .int 0)]) rfl rfl rfl ?_
          refine x_aloadn (x := 57) rfl rfl ?_
          refine x_iload (x := 0) rfl rfl ?_
          refine x_iconst (v := 1) rfl ki_1 ?_
          refine y_iadd (v := 1) rfl (by decide) ?_
          refine x_putI 8 3 rfl f_8_7 rfl (jfin_no TX8 RX8 4 rfl rfl) (congrArg Prod.fst (F.1 57 (8, 4) rfl rfl)) rfl ?_
          refine x_aloadn (x := 57) rfl rfl ?_
          refine x_iload (x := 0) rfl rfl ?_
          refine x_iconst (v := 0) rfl ki_0 ?_
          refine x_iloadn (x := a4) rfl rfl ?_
          refine x_inv (N := m_X8_put) (As := [.int 0, .int 0, .int a4]) (b := 57) (st := []) (d' := 98) (mc := 0) (ms := 0) (host := "") 8 rfl t_X8_put ⟨Or.inl q_8_29, i_X8_put.1, i_X8_put.2⟩ ⟨by decide, rfl⟩ (congrArg Prod.fst (F.1 57 (8, 4) rfl rfl)) rfl (by decide) rfl rfl ⟨by decide, by decide⟩ (jC.of rfl k_X8_put rfl ?_)
          show jX m_X8_put 98 0 0 0 [(0, .ref 57), (1, .int 0), (2, .int 0), (3, .int a4)] [] _ 0 0 _
          refine x_iloadn (x := 0) rfl rfl ?_
          refine x_iflt (tgt := 38) rfl rfl (br_f (by decide) ?_)
          refine x_iloadn (x := 0) rfl rfl ?_
          refine x_aloadn (x := 57) rfl rfl ?_
          refine y_getI (v := 1) 8 3 rfl f_8_7 rfl (congrArg Prod.fst (F.1 57 (8, 4) rfl rfl)) rfl ?_
          refine x_icge (tgt := 38) rfl rfl (br_f (by decide) ?_)
          refine x_iloadn (x := 0) rfl rfl ?_
          refine x_iflt (tgt := 38) rfl rfl (br_f (by decide) ?_)
          refine x_iloadn (x := 0) rfl rfl ?_
          refine x_aloadn (x := 57) rfl rfl ?_
          refine y_getI (v := 4) 8 0 rfl f_8_19 rfl (congrArg Prod.fst (F.1 57 (8, 4) rfl rfl)) (F.2.2.1 7296 4 rfl rfl) ?_
          refine x_icge (tgt := 38) rfl rfl (br_f (by decide) ?_)
          refine x_aloadn (x := 57) rfl rfl ?_
          refine x_getR (b := 58) 8 2 rfl f_8_25 rfl (congrArg Prod.fst (F.1 57 (8, 4) rfl rfl)) (F.2.1 7298 58 rfl rfl) ?_
          refine x_iloadn (x := 0) rfl rfl ?_
          refine x_aloadn (x := 57) rfl rfl ?_
          refine y_getI (v := 4) 8 0 rfl f_8_19 rfl (congrArg Prod.fst (F.1 57 (8, 4) rfl rfl)) (F.2.2.1 7296 4 rfl rfl) ?_
          refine y_imul (v := 0) rfl (by decide) ?_
          refine x_iloadn (x := 0) rfl rfl ?_
          refine y_iadd (v := 0) rfl (by decide) ?_
          refine x_iloadn (x := a4) rfl rfl ?_
          refine y_iast (N := 400) 0 rfl (F.1 58 (100, 400) rfl rfl) rfl (jinb_of (by decide)) (by decide) ?_
          refine x_vret rfl rfl ?_
          show jX m_X8_add 99 0 0 34 [(7, .int 0), (0, .ref 57), (1, .int a4), (2, .int a2), (3, .int a1), (4, .int a3), (5, .int 0), (6, .int 0)] [] _ 0 0 _
          refine x_aloadn (x := 57) rfl rfl ?_
          refine x_iload (x := 0) rfl rfl ?_
          refine x_iconst (v := 1) rfl ki_1 ?_
          refine x_iloadn (x := a2) rfl rfl ?_
          refine x_inv (N := m_X8_put) (As := [.int 0, .int 1, .int a2]) (b := 57) (st := []) (d' := 98) (mc := 0) (ms := 0) (host := "") 8 rfl t_X8_put ⟨Or.inl q_8_29, i_X8_put.1, i_X8_put.2⟩ ⟨by decide, rfl⟩ (congrArg Prod.fst (F.1 57 (8, 4) rfl rfl)) rfl (by decide) rfl rfl ⟨by decide, by decide⟩ (jC.of rfl k_X8_put rfl ?_)
          show jX m_X8_put 98 0 0 0 [(0, .ref 57), (1, .int 0), (2, .int 1), (3, .int a2)] [] _ 0 0 _
          refine x_iloadn (x := 0) rfl rfl ?_
          refine x_iflt (tgt := 38) rfl rfl (br_f (by decide) ?_)
          refine x_iloadn (x := 0) rfl rfl ?_
          refine x_aloadn (x := 57) rfl rfl ?_
          refine y_getI (v := 1) 8 3 rfl f_8_7 rfl (congrArg Prod.fst (F.1 57 (8, 4) rfl rfl)) rfl ?_
          refine x_icge (tgt := 38) rfl rfl (br_f (by decide) ?_)
          refine x_iloadn (x := 1) rfl rfl ?_
          refine x_iflt (tgt := 38) rfl rfl (br_f (by decide) ?_)
          refine x_iloadn (x := 1) rfl rfl ?_
          refine x_aloadn (x := 57) rfl rfl ?_
          refine y_getI (v := 4) 8 0 rfl f_8_19 rfl (congrArg Prod.fst (F.1 57 (8, 4) rfl rfl)) (F.2.2.1 7296 4 rfl rfl) ?_
          refine x_icge (tgt := 38) rfl rfl (br_f (by decide) ?_)
          refine x_aloadn (x := 57) rfl rfl ?_
          refine x_getR (b := 58) 8 2 rfl f_8_25 rfl (congrArg Prod.fst (F.1 57 (8, 4) rfl rfl)) (F.2.1 7298 58 rfl rfl) ?_
          refine x_iloadn (x := 0) rfl rfl ?_
          refine x_aloadn (x := 57) rfl rfl ?_
          refine y_getI (v := 4) 8 0 rfl f_8_19 rfl (congrArg Prod.fst (F.1 57 (8, 4) rfl rfl)) (F.2.2.1 7296 4 rfl rfl) ?_
          refine y_imul (v := 0) rfl (by decide) ?_
          refine x_iloadn (x := 1) rfl rfl ?_
          refine y_iadd (v := 1) rfl (by decide) ?_
          refine x_iloadn (x := a2) rfl rfl ?_
          refine y_iast (N := 400) 1 rfl (F.1 58 (100, 400) rfl rfl) rfl (jinb_of (by decide)) (by decide) ?_
          refine x_vret rfl rfl ?_
          show jX m_X8_add 99 0 0 42 [(7, .int 0), (0, .ref 57), (1, .int a4), (2, .int a2), (3, .int a1), (4, .int a3), (5, .int 0), (6, .int 0)] [] _ 0 0 _
          refine x_aloadn (x := 57) rfl rfl ?_
          refine x_iload (x := 0) rfl rfl ?_
          refine x_iconst (v := 2) rfl ki_2 ?_
          refine x_iloadn (x := a1) rfl rfl ?_
          refine x_inv (N := m_X8_put) (As := [.int 0, .int 2, .int a1]) (b := 57) (st := []) (d' := 98) (mc := 0) (ms := 0) (host := "") 8 rfl t_X8_put ⟨Or.inl q_8_29, i_X8_put.1, i_X8_put.2⟩ ⟨by decide, rfl⟩ (congrArg Prod.fst (F.1 57 (8, 4) rfl rfl)) rfl (by decide) rfl rfl ⟨by decide, by decide⟩ (jC.of rfl k_X8_put rfl ?_)
          show jX m_X8_put 98 0 0 0 [(0, .ref 57), (1, .int 0), (2, .int 2), (3, .int a1)] [] _ 0 0 _
          refine x_iloadn (x := 0) rfl rfl ?_
          refine x_iflt (tgt := 38) rfl rfl (br_f (by decide) ?_)
          refine x_iloadn (x := 0) rfl rfl ?_
          refine x_aloadn (x := 57) rfl rfl ?_
          refine y_getI (v := 1) 8 3 rfl f_8_7 rfl (congrArg Prod.fst (F.1 57 (8, 4) rfl rfl)) rfl ?_
          refine x_icge (tgt := 38) rfl rfl (br_f (by decide) ?_)
          refine x_iloadn (x := 2) rfl rfl ?_
          refine x_iflt (tgt := 38) rfl rfl (br_f (by decide) ?_)
          refine x_iloadn (x := 2) rfl rfl ?_
          refine x_aloadn (x := 57) rfl rfl ?_
          refine y_getI (v := 4) 8 0 rfl f_8_19 rfl (congrArg Prod.fst (F.1 57 (8, 4) rfl rfl)) (F.2.2.1 7296 4 rfl rfl) ?_
          refine x_icge (tgt := 38) rfl rfl (br_f (by decide) ?_)
          refine x_aloadn (x := 57) rfl rfl ?_
          refine x_getR (b := 58) 8 2 rfl f_8_25 rfl (congrArg Prod.fst (F.1 57 (8, 4) rfl rfl)) (F.2.1 7298 58 rfl rfl) ?_
          refine x_iloadn (x := 0) rfl rfl ?_
          refine x_aloadn (x := 57) rfl rfl ?_
          refine y_getI (v := 4) 8 0 rfl f_8_19 rfl (congrArg Prod.fst (F.1 57 (8, 4) rfl rfl)) (F.2.2.1 7296 4 rfl rfl) ?_
          refine y_imul (v := 0) rfl (by decide) ?_
          refine x_iloadn (x := 2) rfl rfl ?_
          refine y_iadd (v := 2) rfl (by decide) ?_
          refine x_iloadn (x := a1) rfl rfl ?_
          refine y_iast (N := 400) 2 rfl (F.1 58 (100, 400) rfl rfl) rfl (jinb_of (by decide)) (by decide) ?_
          refine x_vret rfl rfl ?_
          show jX m_X8_add 99 0 0 50 [(7, .int 0), (0, .ref 57), (1, .int a4), (2, .int a2), (3, .int a1), (4, .int a3), (5, .int 0), (6, .int 0)] [] _ 0 0 _
          refine x_aloadn (x := 57) rfl rfl ?_
          refine x_iload (x := 0) rfl rfl ?_
          refine x_iconst (v := 3) rfl ki_3 ?_
          refine x_iload (x := a3) rfl rfl ?_
          refine x_inv (N := m_X8_put) (As := [.int 0, .int 3, .int a3]) (b := 57) (st := []) (d' := 98) (mc := 0) (ms := 0) (host := "") 8 rfl t_X8_put ⟨Or.inl q_8_29, i_X8_put.1, i_X8_put.2⟩ ⟨by decide, rfl⟩ (congrArg Prod.fst (F.1 57 (8, 4) rfl rfl)) rfl (by decide) rfl rfl ⟨by decide, by decide⟩ (jC.of rfl k_X8_put rfl ?_)
          show jX m_X8_put 98 0 0 0 [(0, .ref 57), (1, .int 0), (2, .int 3), (3, .int a3)] [] _ 0 0 _
          refine x_iloadn (x := 0) rfl rfl ?_
          refine x_iflt (tgt := 38) rfl rfl (br_f (by decide) ?_)
          refine x_iloadn (x := 0) rfl rfl ?_
          refine x_aloadn (x := 57) rfl rfl ?_
          refine y_getI (v := 1) 8 3 rfl f_8_7 rfl (congrArg Prod.fst (F.1 57 (8, 4) rfl rfl)) rfl ?_
          refine x_icge (tgt := 38) rfl rfl (br_f (by decide) ?_)
          refine x_iloadn (x := 3) rfl rfl ?_
          refine x_iflt (tgt := 38) rfl rfl (br_f (by decide) ?_)
          refine x_iloadn (x := 3) rfl rfl ?_
          refine x_aloadn (x := 57) rfl rfl ?_
          refine y_getI (v := 4) 8 0 rfl f_8_19 rfl (congrArg Prod.fst (F.1 57 (8, 4) rfl rfl)) (F.2.2.1 7296 4 rfl rfl) ?_
          refine x_icge (tgt := 38) rfl rfl (br_f (by decide) ?_)
          refine x_aloadn (x := 57) rfl rfl ?_
          refine x_getR (b := 58) 8 2 rfl f_8_25 rfl (congrArg Prod.fst (F.1 57 (8, 4) rfl rfl)) (F.2.1 7298 58 rfl rfl) ?_
          refine x_iloadn (x := 0) rfl rfl ?_
          refine x_aloadn (x := 57) rfl rfl ?_
          refine y_getI (v := 4) 8 0 rfl f_8_19 rfl (congrArg Prod.fst (F.1 57 (8, 4) rfl rfl)) (F.2.2.1 7296 4 rfl rfl) ?_
          refine y_imul (v := 0) rfl (by decide) ?_
          refine x_iloadn (x := 3) rfl rfl ?_
          refine y_iadd (v := 3) rfl (by decide) ?_
          refine x_iloadn (x := a3) rfl rfl ?_
          refine y_iast (N := 400) 3 rfl (F.1 58 (100, 400) rfl rfl) rfl (jinb_of (by decide)) (by decide) ?_
          refine x_vret rfl rfl ?_
          show jX m_X8_add 99 0 0 59 [(7, .int 0), (0, .ref 57), (1, .int a4), (2, .int a2), (3, .int a1), (4, .int a3), (5, .int 0), (6, .int 0)] [] _ 0 0 _
          refine x_aloadn (x := 57) rfl rfl ?_
          refine x_iload (x := 0) rfl rfl ?_
          refine x_iconst (v := 4) rfl ki_4 ?_
          refine x_iload (x := 0) rfl rfl ?_
          refine x_inv (N := m_X8_put) (As := [.int 0, .int 4, .int 0]) (b := 57) (st := []) (d' := 98) (mc := 0) (ms := 0) (host := "") 8 rfl t_X8_put ⟨Or.inl q_8_29, i_X8_put.1, i_X8_put.2⟩ ⟨by decide, rfl⟩ (congrArg Prod.fst (F.1 57 (8, 4) rfl rfl)) rfl (by decide) rfl rfl ⟨by decide, by decide⟩ (jC.of rfl k_X8_put rfl ?_)
          show jX m_X8_put 98 0 0 0 [(0, .ref 57), (1, .int 0), (2, .int 4), (3, .int 0)] [] _ 0 0 _
          refine x_iloadn (x := 0) rfl rfl ?_
          refine x_iflt (tgt := 38) rfl rfl (br_f (by decide) ?_)
          refine x_iloadn (x := 0) rfl rfl ?_
          refine x_aloadn (x := 57) rfl rfl ?_
          refine y_getI (v := 1) 8 3 rfl f_8_7 rfl (congrArg Prod.fst (F.1 57 (8, 4) rfl rfl)) rfl ?_
          refine x_icge (tgt := 38) rfl rfl (br_f (by decide) ?_)
          refine x_iloadn (x := 4) rfl rfl ?_
          refine x_iflt (tgt := 38) rfl rfl (br_f (by decide) ?_)
          refine x_iloadn (x := 4) rfl rfl ?_
          refine x_aloadn (x := 57) rfl rfl ?_
          refine y_getI (v := 4) 8 0 rfl f_8_19 rfl (congrArg Prod.fst (F.1 57 (8, 4) rfl rfl)) (F.2.2.1 7296 4 rfl rfl) ?_
          refine x_icge (tgt := 38) rfl rfl (br_t (by decide) ?_)
          refine x_vret rfl rfl ?_
          show jX m_X8_add 99 0 0 68 [(7, .int 0), (0, .ref 57), (1, .int a4), (2, .int a2), (3, .int a1), (4, .int a3), (5, .int 0), (6, .int 0)] [] _ 0 0 _
          refine x_aloadn (x := 57) rfl rfl ?_
          refine x_iload (x := 0) rfl rfl ?_
          refine x_iconst (v := 5) rfl ki_5 ?_
          refine x_iload (x := 0) rfl rfl ?_
          refine x_inv (N := m_X8_put) (As := [.int 0, .int 5, .int 0]) (b := 57) (st := []) (d' := 98) (mc := 0) (ms := 0) (host := "") 8 rfl t_X8_put ⟨Or.inl q_8_29, i_X8_put.1, i_X8_put.2⟩ ⟨by decide, rfl⟩ (congrArg Prod.fst (F.1 57 (8, 4) rfl rfl)) rfl (by decide) rfl rfl ⟨by decide, by decide⟩ (jC.of rfl k_X8_put rfl ?_)
          show jX m_X8_put 98 0 0 0 [(0, .ref 57), (1, .int 0), (2, .int 5), (3, .int 0)] [] _ 0 0 _
          refine x_iloadn (x := 0) rfl rfl ?_
          refine x_iflt (tgt := 38) rfl rfl (br_f (by decide) ?_)
          refine x_iloadn (x := 0) rfl rfl ?_
          refine x_aloadn (x := 57) rfl rfl ?_
          refine y_getI (v := 1) 8 3 rfl f_8_7 rfl (congrArg Prod.fst (F.1 57 (8, 4) rfl rfl)) rfl ?_
          refine x_icge (tgt := 38) rfl rfl (br_f (by decide) ?_)
          refine x_iloadn (x := 5) rfl rfl ?_
          refine x_iflt (tgt := 38) rfl rfl (br_f (by decide) ?_)
          refine x_iloadn (x := 5) rfl rfl ?_
          refine x_aloadn (x := 57) rfl rfl ?_
          refine y_getI (v := 4) 8 0 rfl f_8_19 rfl (congrArg Prod.fst (F.1 57 (8, 4) rfl rfl)) (F.2.2.1 7296 4 rfl rfl) ?_
          refine x_icge (tgt := 38) rfl rfl (br_t (by decide) ?_)
          refine x_vret rfl rfl ?_
          show jX m_X8_add 99 0 0 77 [(7, .int 0), (0, .ref 57), (1, .int a4), (2, .int a2), (3, .int a1), (4, .int a3), (5, .int 0), (6, .int 0)] [] _ 0 0 _
          refine x_vret rfl rfl ?_
          show jX m_X11_entry 100 0 0 78 [(0, .ref 31), (1, .int a1), (2, .int a2), (3, .int a3), (4, .int a4)] [] _ 0 0 _
          refine x_aloadn (x := 31) rfl rfl ?_
          refine x_aloadn (x := 31) rfl rfl ?_
          refine x_getR (b := 32) 11 0 rfl f_11_10 rfl (congrArg Prod.fst (F.1 31 (11, 13) rfl rfl)) (F.2.1 3968 32 rfl rfl) ?_
          refine x_getR (b := 57) 1 12 rfl f_11_473 rfl (congrArg Prod.fst (F.1 32 (1, 20) rfl rfl)) (F.2.1 4108 57 rfl rfl) ?_
          refine y_getI (v := 1) 8 3 rfl f_11_142 rfl (congrArg Prod.fst (F.1 57 (8, 4) rfl rfl)) rfl ?_
          refine x_inv (N := m_X11_accept) (As := [.int 1]) (b := 31) (st := []) (d' := 99) (mc := 0) (ms := 0) (host := "") 11 rfl t_X11_accept ⟨Or.inl q_11_165, i_X11_accept.1, i_X11_accept.2⟩ ⟨by decide, rfl⟩ (congrArg Prod.fst (F.1 31 (11, 13) rfl rfl)) rfl (by decide) rfl rfl ⟨by decide, by decide⟩ (jC.of rfl k_X11_accept rfl ?_)
          show jX m_X11_accept 99 0 0 0 [(0, .ref 31), (1, .int 1)] [] _ 0 0 _
          refine x_aloadn (x := 31) rfl rfl ?_
          refine x_iconst (v := 0) rfl ki_0 ?_
          refine x_putI 11 12 rfl f_11_94 rfl (jfin_no TX11 RX11 13 rfl rfl) (congrArg Prod.fst (F.1 31 (11, 13) rfl rfl)) rfl ?_
          refine x_aloadn (x := 31) rfl rfl ?_
          refine x_getR (b := 32) 11 0 rfl f_11_10 rfl (congrArg Prod.fst (F.1 31 (11, 13) rfl rfl)) (F.2.1 3968 32 rfl rfl) ?_
          refine x_dup rfl rfl ?_
          refine y_getI (v := 1) 1 19 rfl f_11_528 rfl (congrArg Prod.fst (F.1 32 (1, 20) rfl rfl)) (F.2.2.1 4115 1 rfl rfl) ?_
          refine x_iconst (v := 1) rfl ki_1 ?_
          refine y_iadd (v := 2) rfl (by decide) ?_
          refine x_putI 1 19 rfl f_11_528 rfl (jfin_no TX1 RX1 20 rfl rfl) (congrArg Prod.fst (F.1 32 (1, 20) rfl rfl)) rfl ?_
          refine x_iloadn (x := 1) rfl rfl ?_
          refine x_iret rfl rfl ?_
          show jX m_X11_entry 100 0 0 92 [(0, .ref 31), (1, .int a1), (2, .int a2), (3, .int a3), (4, .int a4)] [.int 1] _ 0 0 _
          refine x_iret rfl rfl ?_
          exact jqe (show sp_entry a1 a2 a3 a4 = 1 by unfold sp_entry; (repeat' split) <;> first | rfl | (exfalso; omega)) (hQ _ (by repeat (first | exact FM | refine jFb_si rfl ?_ | refine jFb_sl rfl ?_ | refine jFb_ci rfl ?_ | refine jFb_cl rfl ?_ | refine jFb_sr rfl ?_)) (by repeat (first | exact O | refine jOl_si rfl ?_ | refine jOl_sl rfl ?_ | refine jOl_ci rfl ?_ | refine jOl_cl rfl ?_ | refine jOl_sr rfl ?_)))
        ·
          refine x_aloadn (x := 31) rfl rfl ?_
          refine x_iconst (v := (-1)) rfl ki_m1 ?_
          refine x_inv (N := m_X11_refuse) (As := [.int (-1)]) (b := 31) (st := []) (d' := 99) (mc := 0) (ms := 0) (host := "") 11 rfl t_X11_refuse ⟨Or.inl q_11_206, i_X11_refuse.1, i_X11_refuse.2⟩ ⟨by decide, rfl⟩ (congrArg Prod.fst (F.1 31 (11, 13) rfl rfl)) rfl (by decide) rfl rfl ⟨by decide, by decide⟩ (jC.of rfl k_X11_refuse rfl ?_)
          show jX m_X11_refuse 99 0 0 0 [(0, .ref 31), (1, .int (-1))] [] _ 0 0 _
          refine x_aloadn (x := 31) rfl rfl ?_
          refine x_iloadn (x := (-1)) rfl rfl ?_
          refine x_putI 11 12 rfl f_11_94 rfl (jfin_no TX11 RX11 13 rfl rfl) (congrArg Prod.fst (F.1 31 (11, 13) rfl rfl)) rfl ?_
          refine x_iloadn (x := (-1)) rfl rfl ?_
          refine x_iret rfl rfl ?_
          show jX m_X11_entry 100 0 0 40 [(0, .ref 31), (1, .int a1), (2, .int a2), (3, .int a3), (4, .int a4)] [.int (-1)] _ 0 0 _
          refine x_iret rfl rfl ?_
          exact jqe (show sp_entry a1 a2 a3 a4 = (-1) by unfold sp_entry; (repeat' split) <;> first | rfl | (exfalso; omega)) (hQ _ (by repeat (first | exact FM | refine jFb_si rfl ?_ | refine jFb_sl rfl ?_ | refine jFb_ci rfl ?_ | refine jFb_cl rfl ?_ | refine jFb_sr rfl ?_)) (by repeat (first | exact O | refine jOl_si rfl ?_ | refine jOl_sl rfl ?_ | refine jOl_ci rfl ?_ | refine jOl_cl rfl ?_ | refine jOl_sr rfl ?_)))
set_option maxRecDepth 100000 in
set_option maxHeartbeats 40000000 in
theorem pm_entry (a1 a2 a3 a4 : Int32) {xs : Nat → Int32} {h : jH} {Q : Option Value → jH → Prop} (F : jFb 125 h) (O : jOl 7 xs h) (hQ : ∀ h', jOl 7 xs h' → Q (some (.int (sp_entry a1 a2 a3 a4))) h') : jC m_X12_entry 100 0 0 [.ref 125, .int a1, .int a2, .int a3, .int a4] h Q := by
  refine jC.of rfl k_X12_entry rfl ?_
  show jX m_X12_entry 100 0 0 0 [(0, .ref 125), (1, .int a1), (2, .int a2), (3, .int a3), (4, .int a4)] [] _ 0 0 _
  refine x_aloadn (x := 125) rfl rfl ?_
  refine x_iconst (v := 0) rfl ki_0 ?_
  refine x_putI 12 0 rfl f_12_180 rfl (jfin_no TX12 RX12 92 rfl rfl) (congrArg Prod.fst (F.1 125 (12, 92) rfl rfl)) rfl ?_
  refine x_iloadn (x := a1) rfl rfl ?_
  refine x_i2l rfl ?_
  refine x_lconst (v := 0) rfl kl_0 ?_
  refine x_ldc2 (v := 3) rfl z_12_195 ?_
  refine x_inst (N := m_X12_in) (As := [.long (a1.toInt64), .long 0, .long 3]) (st := []) (d' := 99) (mc := 0) (ms := 0) (host := "") rfl t_X12_in ⟨Or.inl q_12_188, s_X12_in⟩ rfl (by decide) rfl rfl ⟨by decide, by decide⟩ (c_X12_in (jt_l _) (by decide) (by decide) ?_)
  show jX m_X12_entry 100 0 0 14 [(0, .ref 125), (1, .int a1), (2, .int a2), (3, .int a3), (4, .int a4)] [.int (jp (0 ≤ a1.toInt ∧ a1.toInt ≤ 3))] _ 0 0 _
  refine x_ifeq (tgt := 46) rfl rfl (jpe ⟨fun c1 => ?_, fun c1 => ?_⟩)
  ·
    refine x_aloadn (x := 125) rfl rfl ?_
    refine x_iconst (v := (-1)) rfl ki_m1 ?_
    refine x_inv (N := m_X12_told) (As := [.int (-1)]) (b := 125) (st := []) (d' := 99) (mc := 0) (ms := 0) (host := "") 12 rfl t_X12_told ⟨Or.inl q_12_197, i_X12_told.1, i_X12_told.2⟩ ⟨by decide, rfl⟩ (congrArg Prod.fst (F.1 125 (12, 92) rfl rfl)) rfl (by decide) rfl rfl ⟨by decide, by decide⟩ (jC.of rfl k_X12_told rfl ?_)
    show jX m_X12_told 99 0 0 0 [(0, .ref 125), (1, .int (-1))] [] _ 0 0 _
    refine x_aloadn (x := 125) rfl rfl ?_
    refine x_iloadn (x := (-1)) rfl rfl ?_
    refine x_ifge (tgt := 9) rfl rfl (br_f (by decide) ?_)
    refine x_iloadn (x := (-1)) rfl rfl ?_
    refine x_goto (tgt := 10) rfl rfl ?_
    refine x_putI 12 1 rfl f_12_183 rfl (jfin_no TX12 RX12 92 rfl rfl) (congrArg Prod.fst (F.1 125 (12, 92) rfl rfl)) rfl ?_
    refine x_iloadn (x := (-1)) rfl rfl ?_
    refine x_iret rfl rfl ?_
    show jX m_X12_entry 100 0 0 51 [(0, .ref 125), (1, .int a1), (2, .int a2), (3, .int a3), (4, .int a4)] [.int (-1)] _ 0 0 _
    refine x_iret rfl rfl ?_
    exact jqe (show sp_entry a1 a2 a3 a4 = (-1) by unfold sp_entry; (repeat' split) <;> first | rfl | (exfalso; omega)) (hQ _ (by repeat (first | exact O | refine jOl_si rfl ?_ | refine jOl_sl rfl ?_ | refine jOl_ci rfl ?_ | refine jOl_cl rfl ?_ | refine jOl_sr rfl ?_)))
  ·
    refine x_iloadn (x := a2) rfl rfl ?_
    refine x_inst (N := m_X12_isYear) (As := [.int a2]) (st := []) (d' := 99) (mc := 0) (ms := 0) (host := "") rfl t_X12_isYear ⟨Or.inl q_12_817, s_X12_isYear⟩ rfl (by decide) rfl rfl ⟨by decide, by decide⟩ (c_X12_isYear (x := a2) ?_)
    show jX m_X12_entry 100 0 0 21 [(0, .ref 125), (1, .int a1), (2, .int a2), (3, .int a3), (4, .int a4)] [.int (jp (0 ≤ a2.toInt ∧ a2.toInt ≤ 399))] _ 0 0 _
    refine x_ifeq (tgt := 46) rfl rfl (jpe ⟨fun c2 => ?_, fun c2 => ?_⟩)
    ·
      refine x_aloadn (x := 125) rfl rfl ?_
      refine x_iconst (v := (-1)) rfl ki_m1 ?_
      refine x_inv (N := m_X12_told) (As := [.int (-1)]) (b := 125) (st := []) (d' := 99) (mc := 0) (ms := 0) (host := "") 12 rfl t_X12_told ⟨Or.inl q_12_197, i_X12_told.1, i_X12_told.2⟩ ⟨by decide, rfl⟩ (congrArg Prod.fst (F.1 125 (12, 92) rfl rfl)) rfl (by decide) rfl rfl ⟨by decide, by decide⟩ (jC.of rfl k_X12_told rfl ?_)
      show jX m_X12_told 99 0 0 0 [(0, .ref 125), (1, .int (-1))] [] _ 0 0 _
      refine x_aloadn (x := 125) rfl rfl ?_
      refine x_iloadn (x := (-1)) rfl rfl ?_
      refine x_ifge (tgt := 9) rfl rfl (br_f (by decide) ?_)
      refine x_iloadn (x := (-1)) rfl rfl ?_
      refine x_goto (tgt := 10) rfl rfl ?_
      refine x_putI 12 1 rfl f_12_183 rfl (jfin_no TX12 RX12 92 rfl rfl) (congrArg Prod.fst (F.1 125 (12, 92) rfl rfl)) rfl ?_
      refine x_iloadn (x := (-1)) rfl rfl ?_
      refine x_iret rfl rfl ?_
      show jX m_X12_entry 100 0 0 51 [(0, .ref 125), (1, .int a1), (2, .int a2), (3, .int a3), (4, .int a4)] [.int (-1)] _ 0 0 _
      refine x_iret rfl rfl ?_
      exact jqe (show sp_entry a1 a2 a3 a4 = (-1) by unfold sp_entry; (repeat' split) <;> first | rfl | (exfalso; omega)) (hQ _ (by repeat (first | exact O | refine jOl_si rfl ?_ | refine jOl_sl rfl ?_ | refine jOl_ci rfl ?_ | refine jOl_cl rfl ?_ | refine jOl_sr rfl ?_)))
    ·
      refine x_iloadn (x := a3) rfl rfl ?_
      refine x_i2l rfl ?_
      refine x_ldc2 (v := (-1000000)) rfl z_12_841 ?_
      refine x_ldc2 (v := 1000000) rfl z_12_244 ?_
      refine x_inst (N := m_X12_in) (As := [.long (a3.toInt64), .long (-1000000), .long 1000000]) (st := []) (d' := 99) (mc := 0) (ms := 0) (host := "") rfl t_X12_in ⟨Or.inl q_12_188, s_X12_in⟩ rfl (by decide) rfl rfl ⟨by decide, by decide⟩ (c_X12_in (jt_l _) (by decide) (by decide) ?_)
      show jX m_X12_entry 100 0 0 35 [(0, .ref 125), (1, .int a1), (2, .int a2), (3, .int a3), (4, .int a4)] [.int (jp ((-1000000) ≤ a3.toInt ∧ a3.toInt ≤ 1000000))] _ 0 0 _
      refine x_ifeq (tgt := 46) rfl rfl (jpe ⟨fun c3 => ?_, fun c3 => ?_⟩)
      ·
        refine x_aloadn (x := 125) rfl rfl ?_
        refine x_iconst (v := (-1)) rfl ki_m1 ?_
        refine x_inv (N := m_X12_told) (As := [.int (-1)]) (b := 125) (st := []) (d' := 99) (mc := 0) (ms := 0) (host := "") 12 rfl t_X12_told ⟨Or.inl q_12_197, i_X12_told.1, i_X12_told.2⟩ ⟨by decide, rfl⟩ (congrArg Prod.fst (F.1 125 (12, 92) rfl rfl)) rfl (by decide) rfl rfl ⟨by decide, by decide⟩ (jC.of rfl k_X12_told rfl ?_)
        show jX m_X12_told 99 0 0 0 [(0, .ref 125), (1, .int (-1))] [] _ 0 0 _
        refine x_aloadn (x := 125) rfl rfl ?_
        refine x_iloadn (x := (-1)) rfl rfl ?_
        refine x_ifge (tgt := 9) rfl rfl (br_f (by decide) ?_)
        refine x_iloadn (x := (-1)) rfl rfl ?_
        refine x_goto (tgt := 10) rfl rfl ?_
        refine x_putI 12 1 rfl f_12_183 rfl (jfin_no TX12 RX12 92 rfl rfl) (congrArg Prod.fst (F.1 125 (12, 92) rfl rfl)) rfl ?_
        refine x_iloadn (x := (-1)) rfl rfl ?_
        refine x_iret rfl rfl ?_
        show jX m_X12_entry 100 0 0 51 [(0, .ref 125), (1, .int a1), (2, .int a2), (3, .int a3), (4, .int a4)] [.int (-1)] _ 0 0 _
        refine x_iret rfl rfl ?_
        exact jqe (show sp_entry a1 a2 a3 a4 = (-1) by unfold sp_entry; (repeat' split) <;> first | rfl | (exfalso; omega)) (hQ _ (by repeat (first | exact O | refine jOl_si rfl ?_ | refine jOl_sl rfl ?_ | refine jOl_ci rfl ?_ | refine jOl_cl rfl ?_ | refine jOl_sr rfl ?_)))
      ·
        refine x_iload (x := a4) rfl rfl ?_
        refine x_inst (N := m_X12_isDay) (As := [.int a4]) (st := []) (d' := 99) (mc := 0) (ms := 0) (host := "") rfl t_X12_isDay ⟨Or.inl q_12_273, s_X12_isDay⟩ rfl (by decide) rfl rfl ⟨by decide, by decide⟩ (c_X12_isDay (x := a4) ?_)
        show jX m_X12_entry 100 0 0 43 [(0, .ref 125), (1, .int a1), (2, .int a2), (3, .int a3), (4, .int a4)] [.int (jp (0 ≤ a4.toInt ∧ a4.toInt ≤ 146399))] _ 0 0 _
        refine x_ifne (tgt := 52) rfl rfl (jpn ⟨fun c4 => ?_, fun c4 => ?_⟩)
        ·
          refine x_aloadn (x := 125) rfl rfl ?_
          refine x_getR (b := 126) 12 2 rfl f_12_8 rfl (congrArg Prod.fst (F.1 125 (12, 92) rfl rfl)) (F.2.1 16002 126 rfl rfl) ?_
          refine x_bipush (v := 13) rfl kb_13 ?_
          refine y_iald (v := 0) (N := 50660) 13 rfl (F.1 126 (100, 50660) rfl rfl) (jinb_of (by decide)) (by decide) (F.2.2.2.1 126 rfl rfl 13).1 ?_
          refine x_bipush (v := 100) rfl kb_100 ?_
          refine x_icne (tgt := 71) rfl rfl (bn_t (by decide) ?_)
          refine x_aloadn (x := 125) rfl rfl ?_
          refine x_ldcw (v := 48960) rfl z_12_843 ?_
          refine x_iconst (v := 4) rfl ki_4 ?_
          refine x_aloadn (x := 125) rfl rfl ?_
          refine x_getR (b := 126) 12 2 rfl f_12_8 rfl (congrArg Prod.fst (F.1 125 (12, 92) rfl rfl)) (F.2.1 16002 126 rfl rfl) ?_
          refine x_bipush (v := 13) rfl kb_13 ?_
          refine y_iald (v := 0) (N := 50660) 13 rfl (F.1 126 (100, 50660) rfl rfl) (jinb_of (by decide)) (by decide) (F.2.2.2.1 126 rfl rfl 13).1 ?_
          refine y_imul (v := 0) rfl (by decide) ?_
          refine y_iadd (v := 48960) rfl (by decide) ?_
          refine x_iloadn (x := a1) rfl rfl ?_
          refine x_iloadn (x := a2) rfl rfl ?_
          refine x_iloadn (x := a3) rfl rfl ?_
          refine x_iload (x := a4) rfl rfl ?_
          refine x_inv (N := m_X12_addFour) (As := [.int 48960, .int a1, .int a2, .int a3, .int a4]) (b := 125) (st := []) (d' := 99) (mc := 0) (ms := 0) (host := "") 12 rfl t_X12_addFour ⟨Or.inl q_12_814, i_X12_addFour.1, i_X12_addFour.2⟩ ⟨by decide, rfl⟩ (congrArg Prod.fst (F.1 125 (12, 92) rfl rfl)) rfl (by decide) rfl rfl ⟨by decide, by decide⟩ (jC.of rfl k_X12_addFour rfl ?_)
          show jX m_X12_addFour 99 0 0 0 [(0, .ref 125), (1, .int 48960), (2, .int a1), (3, .int a2), (4, .int a3), (5, .int a4)] [] _ 0 0 _
          refine x_aloadn (x := 125) rfl rfl ?_
          refine x_getR (b := 126) 12 2 rfl f_12_8 rfl (congrArg Prod.fst (F.1 125 (12, 92) rfl rfl)) (F.2.1 16002 126 rfl rfl) ?_
          refine x_iloadn (x := 48960) rfl rfl ?_
          refine x_iloadn (x := a1) rfl rfl ?_
          refine y_iast (N := 50660) 48960 rfl (F.1 126 (100, 50660) rfl rfl) rfl (jinb_of (by decide)) (by decide) ?_
          refine x_aloadn (x := 125) rfl rfl ?_
          refine x_getR (b := 126) 12 2 rfl f_12_8 rfl (congrArg Prod.fst (F.1 125 (12, 92) rfl rfl)) (F.2.1 16002 126 rfl rfl) ?_
          refine x_iloadn (x := 48960) rfl rfl ?_
          refine x_iconst (v := 1) rfl ki_1 ?_
          refine y_iadd (v := 48961) rfl (by decide) ?_
          refine x_iloadn (x := a2) rfl rfl ?_
          refine y_iast (N := 50660) 48961 rfl (F.1 126 (100, 50660) rfl rfl) rfl (jinb_of (by decide)) (by decide) ?_
          refine x_aloadn (x := 125) rfl rfl ?_
          refine x_getR (b := 126) 12 2 rfl f_12_8 rfl (congrArg Prod.fst (F.1 125 (12, 92) rfl rfl)) (F.2.1 16002 126 rfl rfl) ?_
          refine x_iloadn (x := 48960) rfl rfl ?_
          refine x_iconst (v := 2) rfl ki_2 ?_
          refine y_iadd (v := 48962) rfl (by decide) ?_
          refine x_iload (x := a3) rfl rfl ?_
          refine y_iast (N := 50660) 48962 rfl (F.1 126 (100, 50660) rfl rfl) rfl (jinb_of (by decide)) (by decide) ?_
          refine x_aloadn (x := 125) rfl rfl ?_
          refine x_getR (b := 126) 12 2 rfl f_12_8 rfl (congrArg Prod.fst (F.1 125 (12, 92) rfl rfl)) (F.2.1 16002 126 rfl rfl) ?_
          refine x_iloadn (x := 48960) rfl rfl ?_
          refine x_iconst (v := 3) rfl ki_3 ?_
          refine y_iadd (v := 48963) rfl (by decide) ?_
          refine x_iload (x := a4) rfl rfl ?_
          refine y_iast (N := 50660) 48963 rfl (F.1 126 (100, 50660) rfl rfl) rfl (jinb_of (by decide)) (by decide) ?_
          refine x_vret rfl rfl ?_
          show jX m_X12_entry 100 0 0 93 [(0, .ref 125), (1, .int a1), (2, .int a2), (3, .int a3), (4, .int a4)] [] _ 0 0 _
          refine x_aloadn (x := 125) rfl rfl ?_
          refine x_getR (b := 126) 12 2 rfl f_12_8 rfl (congrArg Prod.fst (F.1 125 (12, 92) rfl rfl)) (F.2.1 16002 126 rfl rfl) ?_
          refine x_bipush (v := 13) rfl kb_13 ?_
          refine x_dup2 rfl rfl rfl ?_
          refine y_iald (v := 0) (N := 50660) 13 rfl (F.1 126 (100, 50660) rfl rfl) (jinb_of (by decide)) (by decide) (F.2.2.2.1 126 rfl rfl 13).1 ?_
          refine x_iconst (v := 1) rfl ki_1 ?_
          refine y_iadd (v := 1) rfl (by decide) ?_
          refine y_iast (N := 50660) 13 rfl (F.1 126 (100, 50660) rfl rfl) rfl (jinb_of (by decide)) (by decide) ?_
          refine x_aloadn (x := 125) rfl rfl ?_
          refine x_aloadn (x := 125) rfl rfl ?_
          refine x_getR (b := 126) 12 2 rfl f_12_8 rfl (congrArg Prod.fst (F.1 125 (12, 92) rfl rfl)) (F.2.1 16002 126 rfl rfl) ?_
          refine x_bipush (v := 13) rfl kb_13 ?_
          refine y_iald (v := 1) (N := 50660) 13 rfl (F.1 126 (100, 50660) rfl rfl) (jinb_of (by decide)) (by decide) rfl ?_
          refine x_inv (N := m_X12_told) (As := [.int 1]) (b := 125) (st := []) (d' := 99) (mc := 0) (ms := 0) (host := "") 12 rfl t_X12_told ⟨Or.inl q_12_197, i_X12_told.1, i_X12_told.2⟩ ⟨by decide, rfl⟩ (congrArg Prod.fst (F.1 125 (12, 92) rfl rfl)) rfl (by decide) rfl rfl ⟨by decide, by decide⟩ (jC.of rfl k_X12_told rfl ?_)
          show jX m_X12_told 99 0 0 0 [(0, .ref 125), (1, .int 1)] [] _ 0 0 _
          refine x_aloadn (x := 125) rfl rfl ?_
          refine x_iloadn (x := 1) rfl rfl ?_
          refine x_ifge (tgt := 9) rfl rfl (br_t (by decide) ?_)
          refine x_iconst (v := 0) rfl ki_0 ?_
          refine x_putI 12 1 rfl f_12_183 rfl (jfin_no TX12 RX12 92 rfl rfl) (congrArg Prod.fst (F.1 125 (12, 92) rfl rfl)) rfl ?_
          refine x_iloadn (x := 1) rfl rfl ?_
          refine x_iret rfl rfl ?_
          show jX m_X12_entry 100 0 0 115 [(0, .ref 125), (1, .int a1), (2, .int a2), (3, .int a3), (4, .int a4)] [.int 1] _ 0 0 _
          refine x_iret rfl rfl ?_
          exact jqe (show sp_entry a1 a2 a3 a4 = 1 by unfold sp_entry; (repeat' split) <;> first | rfl | (exfalso; omega)) (hQ _ (by repeat (first | exact O | refine jOl_si rfl ?_ | refine jOl_sl rfl ?_ | refine jOl_ci rfl ?_ | refine jOl_cl rfl ?_ | refine jOl_sr rfl ?_)))
        ·
          refine x_aloadn (x := 125) rfl rfl ?_
          refine x_iconst (v := (-1)) rfl ki_m1 ?_
          refine x_inv (N := m_X12_told) (As := [.int (-1)]) (b := 125) (st := []) (d' := 99) (mc := 0) (ms := 0) (host := "") 12 rfl t_X12_told ⟨Or.inl q_12_197, i_X12_told.1, i_X12_told.2⟩ ⟨by decide, rfl⟩ (congrArg Prod.fst (F.1 125 (12, 92) rfl rfl)) rfl (by decide) rfl rfl ⟨by decide, by decide⟩ (jC.of rfl k_X12_told rfl ?_)
          show jX m_X12_told 99 0 0 0 [(0, .ref 125), (1, .int (-1))] [] _ 0 0 _
          refine x_aloadn (x := 125) rfl rfl ?_
          refine x_iloadn (x := (-1)) rfl rfl ?_
          refine x_ifge (tgt := 9) rfl rfl (br_f (by decide) ?_)
          refine x_iloadn (x := (-1)) rfl rfl ?_
          refine x_goto (tgt := 10) rfl rfl ?_
          refine x_putI 12 1 rfl f_12_183 rfl (jfin_no TX12 RX12 92 rfl rfl) (congrArg Prod.fst (F.1 125 (12, 92) rfl rfl)) rfl ?_
          refine x_iloadn (x := (-1)) rfl rfl ?_
          refine x_iret rfl rfl ?_
          show jX m_X12_entry 100 0 0 51 [(0, .ref 125), (1, .int a1), (2, .int a2), (3, .int a3), (4, .int a4)] [.int (-1)] _ 0 0 _
          refine x_iret rfl rfl ?_
          exact jqe (show sp_entry a1 a2 a3 a4 = (-1) by unfold sp_entry; (repeat' split) <;> first | rfl | (exfalso; omega)) (hQ _ (by repeat (first | exact O | refine jOl_si rfl ?_ | refine jOl_sl rfl ?_ | refine jOl_ci rfl ?_ | refine jOl_cl rfl ?_ | refine jOl_sr rfl ?_)))
def sp_close (a1 a2 a3 a4 : Int32) : Int32 := if (0 ≤ a1.toInt ∧ a1.toInt ≤ 3) ∧ (0 ≤ a2.toInt ∧ a2.toInt ≤ 399) ∧ (0 ≤ a4.toInt ∧ a4.toInt ≤ 146399) then (if a3.toInt = 0 then 0 else (-3)) else (-1)
set_option maxRecDepth 100000 in
set_option maxHeartbeats 40000000 in
theorem px_close (a1 a2 a3 a4 : Int32) {xs : Nat → Int32} {h : jH} {Q : Option Value → jH → Prop} (F : jFb 31 h) (O : jOl 7 xs h) (hQ : ∀ h', jFb 125 h' → jOl 7 xs h' → Q (some (.int (sp_close a1 a2 a3 a4))) h') : jC m_X11_close 100 0 0 [.ref 31, .int a1, .int a2, .int a3, .int a4] h Q := by
  have FM := jFb_up 125 rfl F
  refine jC.of rfl k_X11_close rfl ?_
  show jX m_X11_close 100 0 0 0 [(0, .ref 31), (1, .int a1), (2, .int a2), (3, .int a3), (4, .int a4)] [] _ 0 0 _
  refine x_iloadn (x := a1) rfl rfl ?_
  refine x_inst (N := m_X11_isOffice) (As := [.int a1]) (st := []) (d' := 99) (mc := 0) (ms := 0) (host := "") rfl t_X11_isOffice ⟨Or.inl q_11_456, s_X11_isOffice⟩ rfl (by decide) rfl rfl ⟨by decide, by decide⟩ (c_X11_isOffice (x := a1) ?_)
  show jX m_X11_close 100 0 0 4 [(0, .ref 31), (1, .int a1), (2, .int a2), (3, .int a3), (4, .int a4)] [.int (jp (0 ≤ a1.toInt ∧ a1.toInt ≤ 3))] _ 0 0 _
  refine x_ifeq (tgt := 22) rfl rfl (jpe ⟨fun c1 => ?_, fun c1 => ?_⟩)
  ·
    refine x_aloadn (x := 31) rfl rfl ?_
    refine x_iconst (v := (-1)) rfl ki_m1 ?_
    refine x_inv (N := m_X11_refuse) (As := [.int (-1)]) (b := 31) (st := []) (d' := 99) (mc := 0) (ms := 0) (host := "") 11 rfl t_X11_refuse ⟨Or.inl q_11_206, i_X11_refuse.1, i_X11_refuse.2⟩ ⟨by decide, rfl⟩ (congrArg Prod.fst (F.1 31 (11, 13) rfl rfl)) rfl (by decide) rfl rfl ⟨by decide, by decide⟩ (jC.of rfl k_X11_refuse rfl ?_)
    show jX m_X11_refuse 99 0 0 0 [(0, .ref 31), (1, .int (-1))] [] _ 0 0 _
    refine x_aloadn (x := 31) rfl rfl ?_
    refine x_iloadn (x := (-1)) rfl rfl ?_
    refine x_putI 11 12 rfl f_11_94 rfl (jfin_no TX11 RX11 13 rfl rfl) (congrArg Prod.fst (F.1 31 (11, 13) rfl rfl)) rfl ?_
    refine x_iloadn (x := (-1)) rfl rfl ?_
    refine x_iret rfl rfl ?_
    show jX m_X11_close 100 0 0 27 [(0, .ref 31), (1, .int a1), (2, .int a2), (3, .int a3), (4, .int a4)] [.int (-1)] _ 0 0 _
    refine x_iret rfl rfl ?_
    exact jqe (show sp_close a1 a2 a3 a4 = (-1) by unfold sp_close; (repeat' split) <;> first | rfl | (exfalso; omega)) (hQ _ (by repeat (first | exact FM | refine jFb_si rfl ?_ | refine jFb_sl rfl ?_ | refine jFb_ci rfl ?_ | refine jFb_cl rfl ?_ | refine jFb_sr rfl ?_)) (by repeat (first | exact O | refine jOl_si rfl ?_ | refine jOl_sl rfl ?_ | refine jOl_ci rfl ?_ | refine jOl_cl rfl ?_ | refine jOl_sr rfl ?_)))
  ·
    refine x_iloadn (x := a2) rfl rfl ?_
    refine x_inst (N := m_X11_isYear) (As := [.int a2]) (st := []) (d' := 99) (mc := 0) (ms := 0) (host := "") rfl t_X11_isYear ⟨Or.inl q_11_433, s_X11_isYear⟩ rfl (by decide) rfl rfl ⟨by decide, by decide⟩ (c_X11_isYear (x := a2) ?_)
    show jX m_X11_close 100 0 0 11 [(0, .ref 31), (1, .int a1), (2, .int a2), (3, .int a3), (4, .int a4)] [.int (jp (0 ≤ a2.toInt ∧ a2.toInt ≤ 399))] _ 0 0 _
    refine x_ifeq (tgt := 22) rfl rfl (jpe ⟨fun c2 => ?_, fun c2 => ?_⟩)
    ·
      refine x_aloadn (x := 31) rfl rfl ?_
      refine x_iconst (v := (-1)) rfl ki_m1 ?_
      refine x_inv (N := m_X11_refuse) (As := [.int (-1)]) (b := 31) (st := []) (d' := 99) (mc := 0) (ms := 0) (host := "") 11 rfl t_X11_refuse ⟨Or.inl q_11_206, i_X11_refuse.1, i_X11_refuse.2⟩ ⟨by decide, rfl⟩ (congrArg Prod.fst (F.1 31 (11, 13) rfl rfl)) rfl (by decide) rfl rfl ⟨by decide, by decide⟩ (jC.of rfl k_X11_refuse rfl ?_)
      show jX m_X11_refuse 99 0 0 0 [(0, .ref 31), (1, .int (-1))] [] _ 0 0 _
      refine x_aloadn (x := 31) rfl rfl ?_
      refine x_iloadn (x := (-1)) rfl rfl ?_
      refine x_putI 11 12 rfl f_11_94 rfl (jfin_no TX11 RX11 13 rfl rfl) (congrArg Prod.fst (F.1 31 (11, 13) rfl rfl)) rfl ?_
      refine x_iloadn (x := (-1)) rfl rfl ?_
      refine x_iret rfl rfl ?_
      show jX m_X11_close 100 0 0 27 [(0, .ref 31), (1, .int a1), (2, .int a2), (3, .int a3), (4, .int a4)] [.int (-1)] _ 0 0 _
      refine x_iret rfl rfl ?_
      exact jqe (show sp_close a1 a2 a3 a4 = (-1) by unfold sp_close; (repeat' split) <;> first | rfl | (exfalso; omega)) (hQ _ (by repeat (first | exact FM | refine jFb_si rfl ?_ | refine jFb_sl rfl ?_ | refine jFb_ci rfl ?_ | refine jFb_cl rfl ?_ | refine jFb_sr rfl ?_)) (by repeat (first | exact O | refine jOl_si rfl ?_ | refine jOl_sl rfl ?_ | refine jOl_ci rfl ?_ | refine jOl_cl rfl ?_ | refine jOl_sr rfl ?_)))
    ·
      refine x_iload (x := a4) rfl rfl ?_
      refine x_inst (N := m_X11_isDay) (As := [.int a4]) (st := []) (d' := 99) (mc := 0) (ms := 0) (host := "") rfl t_X11_isDay ⟨Or.inl q_11_115, s_X11_isDay⟩ rfl (by decide) rfl rfl ⟨by decide, by decide⟩ (c_X11_isDay (x := a4) ?_)
      show jX m_X11_close 100 0 0 19 [(0, .ref 31), (1, .int a1), (2, .int a2), (3, .int a3), (4, .int a4)] [.int (jp (0 ≤ a4.toInt ∧ a4.toInt ≤ 146399))] _ 0 0 _
      refine x_ifne (tgt := 28) rfl rfl (jpn ⟨fun c3 => ?_, fun c3 => ?_⟩)
      ·
        refine x_aloadn (x := 31) rfl rfl ?_
        refine x_iloadn (x := a1) rfl rfl ?_
        refine x_inv (N := m_X11_lastClosed) (As := [.int a1]) (b := 31) (st := []) (d' := 99) (mc := 0) (ms := 0) (host := "") 11 rfl t_X11_lastClosed ⟨Or.inl q_11_476, i_X11_lastClosed.1, i_X11_lastClosed.2⟩ ⟨by decide, rfl⟩ (congrArg Prod.fst (F.1 31 (11, 13) rfl rfl)) rfl (by decide) rfl rfl ⟨by decide, by decide⟩ (jC.of rfl k_X11_lastClosed rfl ?_)
        show jX m_X11_lastClosed 99 0 0 0 [(0, .ref 31), (1, .int a1)] [] _ 0 0 _
        refine x_aloadn (x := 31) rfl rfl ?_
        refine x_getR (b := 32) 11 0 rfl f_11_10 rfl (congrArg Prod.fst (F.1 31 (11, 13) rfl rfl)) (F.2.1 3968 32 rfl rfl) ?_
        refine x_getR (b := 59) 1 13 rfl f_11_482 rfl (congrArg Prod.fst (F.1 32 (1, 20) rfl rfl)) (F.2.1 4109 59 rfl rfl) ?_
        refine y_getI (v := 0) 8 3 rfl f_11_142 rfl (congrArg Prod.fst (F.1 59 (8, 4) rfl rfl)) (F.2.2.1 7555 0 rfl rfl) ?_
        refine x_iconst (v := 1) rfl ki_1 ?_
        refine y_isub (v := (-1)) rfl (by decide) ?_
        refine x_istoren (ls' := [(2, .int (-1)), (0, .ref 31), (1, .int a1)]) rfl rfl rfl ?_
        refine x_iloadn (x := (-1)) rfl rfl ?_
        refine x_iflt (tgt := 52) rfl rfl (br_t (by decide) ?_)
        refine x_iconst (v := (-1)) rfl ki_m1 ?_
        refine x_iret rfl rfl ?_
        show jX m_X11_close 100 0 0 33 [(0, .ref 31), (1, .int a1), (2, .int a2), (3, .int a3), (4, .int a4)] [.int (-1)] _ 0 0 _
        refine x_istore (ls' := [(5, .int (-1)), (0, .ref 31), (1, .int a1), (2, .int a2), (3, .int a3), (4, .int a4)]) rfl rfl rfl ?_
        refine x_iload (x := (-1)) rfl rfl ?_
        refine x_iconst (v := (-1)) rfl ki_m1 ?_
        refine x_iceq (tgt := 49) rfl rfl (br_t (by decide) ?_)
        refine x_iloadn (x := a3) rfl rfl ?_
        refine x_aloadn (x := 31) rfl rfl ?_
        refine x_iloadn (x := a1) rfl rfl ?_
        refine x_iloadn (x := a2) rfl rfl ?_
        refine x_iload (x := a4) rfl rfl ?_
        refine x_inv (N := m_X11_balanceOf) (As := [.int a1, .int a2, .int a4]) (b := 31) (st := [.int a3]) (d' := 99) (mc := 0) (ms := 0) (host := "") 11 rfl t_X11_balanceOf ⟨Or.inl q_11_479, i_X11_balanceOf.1, i_X11_balanceOf.2⟩ ⟨by decide, rfl⟩ (congrArg Prod.fst (F.1 31 (11, 13) rfl rfl)) rfl (by decide) rfl rfl ⟨by decide, by decide⟩ (jC.of rfl k_X11_balanceOf rfl ?_)
        show jX m_X11_balanceOf 99 0 0 0 [(0, .ref 31), (1, .int a1), (2, .int a2), (3, .int a4)] [] _ 0 0 _
        refine x_iconst (v := 0) rfl ki_0 ?_
        refine x_istore (ls' := [(4, .int 0), (0, .ref 31), (1, .int a1), (2, .int a2), (3, .int a4)]) rfl rfl rfl ?_
        refine x_aloadn (x := 31) rfl rfl ?_
        refine x_iloadn (x := a1) rfl rfl ?_
        refine x_iloadn (x := a2) rfl rfl ?_
        refine x_iconst (v := 1) rfl ki_1 ?_
        refine x_isub rfl ?_
        refine x_inv (N := m_X11_closing) (As := [.int a1, .int (a2 - 1)]) (b := 31) (st := []) (d' := 98) (mc := 0) (ms := 0) (host := "") 11 rfl t_X11_closing ⟨Or.inl q_11_567, i_X11_closing.1, i_X11_closing.2⟩ ⟨by decide, rfl⟩ (congrArg Prod.fst (F.1 31 (11, 13) rfl rfl)) rfl (by decide) rfl rfl ⟨by decide, by decide⟩ (jC.of rfl k_X11_closing rfl ?_)
        show jX m_X11_closing 98 0 0 0 [(0, .ref 31), (1, .int a1), (2, .int (a2 - 1))] [] _ 0 0 _
        refine x_iconst (v := 0) rfl ki_0 ?_
        refine x_istoren (ls' := [(3, .int 0), (0, .ref 31), (1, .int a1), (2, .int (a2 - 1))]) rfl rfl rfl ?_
        refine x_iloadn (x := 0) rfl rfl ?_
        refine x_aloadn (x := 31) rfl rfl ?_
        refine x_getR (b := 32) 11 0 rfl f_11_10 rfl (congrArg Prod.fst (F.1 31 (11, 13) rfl rfl)) (F.2.1 3968 32 rfl rfl) ?_
        refine x_getR (b := 59) 1 13 rfl f_11_482 rfl (congrArg Prod.fst (F.1 32 (1, 20) rfl rfl)) (F.2.1 4109 59 rfl rfl) ?_
        refine y_getI (v := 0) 8 3 rfl f_11_142 rfl (congrArg Prod.fst (F.1 59 (8, 4) rfl rfl)) (F.2.2.1 7555 0 rfl rfl) ?_
        refine x_icge (tgt := 56) rfl rfl (br_t (by decide) ?_)
        refine x_iconst (v := (-1)) rfl ki_m1 ?_
        refine x_iret rfl rfl ?_
        show jX m_X11_balanceOf 99 0 0 11 [(4, .int 0), (0, .ref 31), (1, .int a1), (2, .int a2), (3, .int a4)] [.int (-1)] _ 0 0 _
        refine x_istore (ls' := [(5, .int (-1)), (4, .int 0), (0, .ref 31), (1, .int a1), (2, .int a2), (3, .int a4)]) rfl rfl rfl ?_
        refine x_iload (x := (-1)) rfl rfl ?_
        refine x_iconst (v := (-1)) rfl ki_m1 ?_
        refine x_iceq (tgt := 51) rfl rfl (br_t (by decide) ?_)
        refine x_iconst (v := 0) rfl ki_0 ?_
        refine x_istore (ls' := [(6, .int 0), (5, .int (-1)), (4, .int 0), (0, .ref 31), (1, .int a1), (2, .int a2), (3, .int a4)]) rfl rfl rfl ?_
        refine x_iload (x := 0) rfl rfl ?_
        refine x_aloadn (x := 31) rfl rfl ?_
        refine x_getR (b := 32) 11 0 rfl f_11_10 rfl (congrArg Prod.fst (F.1 31 (11, 13) rfl rfl)) (F.2.1 3968 32 rfl rfl) ?_
        refine x_getR (b := 57) 1 12 rfl f_11_473 rfl (congrArg Prod.fst (F.1 32 (1, 20) rfl rfl)) (F.2.1 4108 57 rfl rfl) ?_
        refine y_getI (v := 0) 8 3 rfl f_11_142 rfl (congrArg Prod.fst (F.1 57 (8, 4) rfl rfl)) (F.2.2.1 7299 0 rfl rfl) ?_
        refine x_icge (tgt := 136) rfl rfl (br_t (by decide) ?_)
        refine x_iload (x := 0) rfl rfl ?_
        refine x_iret rfl rfl ?_
        show jX m_X11_close 100 0 0 58 [(5, .int (-1)), (0, .ref 31), (1, .int a1), (2, .int a2), (3, .int a3), (4, .int a4)] [.int 0, .int a3] _ 0 0 _
        refine x_iceq (tgt := 68) rfl rfl (ti_eq (show (a3 : Int32).toInt = a3.toInt from rfl) (show (0 : Int32).toInt = 0 by decide) ⟨fun c4 => ?_, fun c4 => ?_⟩)
        ·
          refine x_aloadn (x := 31) rfl rfl ?_
          refine x_getR (b := 32) 11 0 rfl f_11_10 rfl (congrArg Prod.fst (F.1 31 (11, 13) rfl rfl)) (F.2.1 3968 32 rfl rfl) ?_
          refine x_getR (b := 59) 1 13 rfl f_11_482 rfl (congrArg Prod.fst (F.1 32 (1, 20) rfl rfl)) (F.2.1 4109 59 rfl rfl) ?_
          refine x_inv (N := m_X8_isFull) (As := []) (b := 59) (st := []) (d' := 99) (mc := 0) (ms := 0) (host := "") 8 rfl t_X8_isFull ⟨Or.inl q_11_130, i_X8_isFull.1, i_X8_isFull.2⟩ ⟨by decide, rfl⟩ (congrArg Prod.fst (F.1 59 (8, 4) rfl rfl)) rfl (by decide) rfl rfl ⟨by decide, by decide⟩ (jC.of rfl k_X8_isFull rfl ?_)
          show jX m_X8_isFull 99 0 0 0 [(0, .ref 59)] [] _ 0 0 _
          refine x_aloadn (x := 59) rfl rfl ?_
          refine y_getI (v := 0) 8 3 rfl f_8_7 rfl (congrArg Prod.fst (F.1 59 (8, 4) rfl rfl)) (F.2.2.1 7555 0 rfl rfl) ?_
          refine x_aloadn (x := 59) rfl rfl ?_
          refine y_getI (v := 40) 8 1 rfl f_8_22 rfl (congrArg Prod.fst (F.1 59 (8, 4) rfl rfl)) (F.2.2.1 7553 40 rfl rfl) ?_
          refine x_iclt (tgt := 15) rfl rfl (br_t (by decide) ?_)
          refine x_iconst (v := 0) rfl ki_0 ?_
          refine x_zret rfl rfl (by first | decide | exact jp_01 _) ?_
          show jX m_X11_close 100 0 0 78 [(5, .int (-1)), (0, .ref 31), (1, .int a1), (2, .int a2), (3, .int a3), (4, .int a4)] [.int 0] _ 0 0 _
          refine x_ifeq (tgt := 88) rfl rfl (br_t (by decide) ?_)
          refine x_aloadn (x := 31) rfl rfl ?_
          refine x_getR (b := 32) 11 0 rfl f_11_10 rfl (congrArg Prod.fst (F.1 31 (11, 13) rfl rfl)) (F.2.1 3968 32 rfl rfl) ?_
          refine x_getR (b := 59) 1 13 rfl f_11_482 rfl (congrArg Prod.fst (F.1 32 (1, 20) rfl rfl)) (F.2.1 4109 59 rfl rfl) ?_
          refine x_iload (x := a4) rfl rfl ?_
          refine x_iloadn (x := a2) rfl rfl ?_
          refine x_iloadn (x := a1) rfl rfl ?_
          refine x_iloadn (x := a3) rfl rfl ?_
          refine x_iconst (v := 0) rfl ki_0 ?_
          refine x_iconst (v := 0) rfl ki_0 ?_
          refine x_inv (N := m_X8_add) (As := [.int a4, .int a2, .int a1, .int a3, .int 0, .int 0]) (b := 59) (st := []) (d' := 99) (mc := 0) (ms := 0) (host := "") 8 rfl t_X8_add ⟨Or.inl q_11_145, i_X8_add.1, i_X8_add.2⟩ ⟨by decide, rfl⟩ (congrArg Prod.fst (F.1 59 (8, 4) rfl rfl)) rfl (by decide) rfl rfl ⟨by decide, by decide⟩ (jC.of rfl k_X8_add rfl ?_)
          show jX m_X8_add 99 0 0 0 [(0, .ref 59), (1, .int a4), (2, .int a2), (3, .int a1), (4, .int a3), (5, .int 0), (6, .int 0)] [] _ 0 0 _
          refine x_aloadn (x := 59) rfl rfl ?_
          refine y_getI (v := 0) 8 3 rfl f_8_7 rfl (congrArg Prod.fst (F.1 59 (8, 4) rfl rfl)) (F.2.2.1 7555 0 rfl rfl) ?_
          refine x_aloadn (x := 59) rfl rfl ?_
          refine y_getI (v := 40) 8 1 rfl f_8_22 rfl (congrArg Prod.fst (F.1 59 (8, 4) rfl rfl)) (F.2.2.1 7553 40 rfl rfl) ?_
          refine x_iclt (tgt := 12) rfl rfl (br_t (by decide) ?_)
          refine x_aloadn (x := 59) rfl rfl ?_
          refine y_getI (v := 0) 8 3 rfl f_8_7 rfl (congrArg Prod.fst (F.1 59 (8, 4) rfl rfl)) (F.2.2.1 7555 0 rfl rfl) ?_
          refine x_istore (ls' := [(7, .int 0), (0, .ref 59), (1, .int a4), (2, .int a2), (3, .int a1), (4, .int a3), (5, .int 0), (6, .int 0)]) rfl rfl rfl ?_
          refine x_aloadn (x := 59) rfl rfl ?_
          refine x_iload (x := 0) rfl rfl ?_
          refine x_iconst (v := 1) rfl ki_1 ?_
          refine y_iadd (v := 1) rfl (by decide) ?_
          refine x_putI 8 3 rfl f_8_7 rfl (jfin_no TX8 RX8 4 rfl rfl) (congrArg Prod.fst (F.1 59 (8, 4) rfl rfl)) rfl ?_
          refine x_aloadn (x := 59) rfl rfl ?_
          refine x_iload (x := 0) rfl rfl ?_
          refine x_iconst (v := 0) rfl ki_0 ?_
          refine x_iloadn (x := a4) rfl rfl ?_
          refine x_inv (N := m_X8_put) (As := [.int 0, .int 0, .int a4]) (b := 59) (st := []) (d' := 98) (mc := 0) (ms := 0) (host := "") 8 rfl t_X8_put ⟨Or.inl q_8_29, i_X8_put.1, i_X8_put.2⟩ ⟨by decide, rfl⟩ (congrArg Prod.fst (F.1 59 (8, 4) rfl rfl)) rfl (by decide) rfl rfl ⟨by decide, by decide⟩ (jC.of rfl k_X8_put rfl ?_)
          show jX m_X8_put 98 0 0 0 [(0, .ref 59), (1, .int 0), (2, .int 0), (3, .int a4)] [] _ 0 0 _
          refine x_iloadn (x := 0) rfl rfl ?_
          refine x_iflt (tgt := 38) rfl rfl (br_f (by decide) ?_)
          refine x_iloadn (x := 0) rfl rfl ?_
          refine x_aloadn (x := 59) rfl rfl ?_
          refine y_getI (v := 1) 8 3 rfl f_8_7 rfl (congrArg Prod.fst (F.1 59 (8, 4) rfl rfl)) rfl ?_
          refine x_icge (tgt := 38) rfl rfl (br_f (by decide) ?_)
          refine x_iloadn (x := 0) rfl rfl ?_
          refine x_iflt (tgt := 38) rfl rfl (br_f (by decide) ?_)
          refine x_iloadn (x := 0) rfl rfl ?_
          refine x_aloadn (x := 59) rfl rfl ?_
          refine y_getI (v := 4) 8 0 rfl f_8_19 rfl (congrArg Prod.fst (F.1 59 (8, 4) rfl rfl)) (F.2.2.1 7552 4 rfl rfl) ?_
          refine x_icge (tgt := 38) rfl rfl (br_f (by decide) ?_)
          refine x_aloadn (x := 59) rfl rfl ?_
          refine x_getR (b := 60) 8 2 rfl f_8_25 rfl (congrArg Prod.fst (F.1 59 (8, 4) rfl rfl)) (F.2.1 7554 60 rfl rfl) ?_
          refine x_iloadn (x := 0) rfl rfl ?_
          refine x_aloadn (x := 59) rfl rfl ?_
          refine y_getI (v := 4) 8 0 rfl f_8_19 rfl (congrArg Prod.fst (F.1 59 (8, 4) rfl rfl)) (F.2.2.1 7552 4 rfl rfl) ?_
          refine y_imul (v := 0) rfl (by decide) ?_
          refine x_iloadn (x := 0) rfl rfl ?_
          refine y_iadd (v := 0) rfl (by decide) ?_
          refine x_iloadn (x := a4) rfl rfl ?_
          refine y_iast (N := 160) 0 rfl (F.1 60 (100, 160) rfl rfl) rfl (jinb_of (by decide)) (by decide) ?_
          refine x_vret rfl rfl ?_
          show jX m_X8_add 99 0 0 34 [(7, .int 0), (0, .ref 59), (1, .int a4), (2, .int a2), (3, .int a1), (4, .int a3), (5, .int 0), (6, .int 0)] [] _ 0 0 _
          refine x_aloadn (x := 59) rfl rfl ?_
          refine x_iload (x := 0) rfl rfl ?_
          refine x_iconst (v := 1) rfl ki_1 ?_
          refine x_iloadn (x := a2) rfl rfl ?_
          refine x_inv (N := m_X8_put) (As := [.int 0, .int 1, .int a2]) (b := 59) (st := []) (d' := 98) (mc := 0) (ms := 0) (host := "") 8 rfl t_X8_put ⟨Or.inl q_8_29, i_X8_put.1, i_X8_put.2⟩ ⟨by decide, rfl⟩ (congrArg Prod.fst (F.1 59 (8, 4) rfl rfl)) rfl (by decide) rfl rfl ⟨by decide, by decide⟩ (jC.of rfl k_X8_put rfl ?_)
          show jX m_X8_put 98 0 0 0 [(0, .ref 59), (1, .int 0), (2, .int 1), (3, .int a2)] [] _ 0 0 _
          refine x_iloadn (x := 0) rfl rfl ?_
          refine x_iflt (tgt := 38) rfl rfl (br_f (by decide) ?_)
          refine x_iloadn (x := 0) rfl rfl ?_
          refine x_aloadn (x := 59) rfl rfl ?_
          refine y_getI (v := 1) 8 3 rfl f_8_7 rfl (congrArg Prod.fst (F.1 59 (8, 4) rfl rfl)) rfl ?_
          refine x_icge (tgt := 38) rfl rfl (br_f (by decide) ?_)
          refine x_iloadn (x := 1) rfl rfl ?_
          refine x_iflt (tgt := 38) rfl rfl (br_f (by decide) ?_)
          refine x_iloadn (x := 1) rfl rfl ?_
          refine x_aloadn (x := 59) rfl rfl ?_
          refine y_getI (v := 4) 8 0 rfl f_8_19 rfl (congrArg Prod.fst (F.1 59 (8, 4) rfl rfl)) (F.2.2.1 7552 4 rfl rfl) ?_
          refine x_icge (tgt := 38) rfl rfl (br_f (by decide) ?_)
          refine x_aloadn (x := 59) rfl rfl ?_
          refine x_getR (b := 60) 8 2 rfl f_8_25 rfl (congrArg Prod.fst (F.1 59 (8, 4) rfl rfl)) (F.2.1 7554 60 rfl rfl) ?_
          refine x_iloadn (x := 0) rfl rfl ?_
          refine x_aloadn (x := 59) rfl rfl ?_
          refine y_getI (v := 4) 8 0 rfl f_8_19 rfl (congrArg Prod.fst (F.1 59 (8, 4) rfl rfl)) (F.2.2.1 7552 4 rfl rfl) ?_
          refine y_imul (v := 0) rfl (by decide) ?_
          refine x_iloadn (x := 1) rfl rfl ?_
          refine y_iadd (v := 1) rfl (by decide) ?_
          refine x_iloadn (x := a2) rfl rfl ?_
          refine y_iast (N := 160) 1 rfl (F.1 60 (100, 160) rfl rfl) rfl (jinb_of (by decide)) (by decide) ?_
          refine x_vret rfl rfl ?_
          show jX m_X8_add 99 0 0 42 [(7, .int 0), (0, .ref 59), (1, .int a4), (2, .int a2), (3, .int a1), (4, .int a3), (5, .int 0), (6, .int 0)] [] _ 0 0 _
          refine x_aloadn (x := 59) rfl rfl ?_
          refine x_iload (x := 0) rfl rfl ?_
          refine x_iconst (v := 2) rfl ki_2 ?_
          refine x_iloadn (x := a1) rfl rfl ?_
          refine x_inv (N := m_X8_put) (As := [.int 0, .int 2, .int a1]) (b := 59) (st := []) (d' := 98) (mc := 0) (ms := 0) (host := "") 8 rfl t_X8_put ⟨Or.inl q_8_29, i_X8_put.1, i_X8_put.2⟩ ⟨by decide, rfl⟩ (congrArg Prod.fst (F.1 59 (8, 4) rfl rfl)) rfl (by decide) rfl rfl ⟨by decide, by decide⟩ (jC.of rfl k_X8_put rfl ?_)
          show jX m_X8_put 98 0 0 0 [(0, .ref 59), (1, .int 0), (2, .int 2), (3, .int a1)] [] _ 0 0 _
          refine x_iloadn (x := 0) rfl rfl ?_
          refine x_iflt (tgt := 38) rfl rfl (br_f (by decide) ?_)
          refine x_iloadn (x := 0) rfl rfl ?_
          refine x_aloadn (x := 59) rfl rfl ?_
          refine y_getI (v := 1) 8 3 rfl f_8_7 rfl (congrArg Prod.fst (F.1 59 (8, 4) rfl rfl)) rfl ?_
          refine x_icge (tgt := 38) rfl rfl (br_f (by decide) ?_)
          refine x_iloadn (x := 2) rfl rfl ?_
          refine x_iflt (tgt := 38) rfl rfl (br_f (by decide) ?_)
          refine x_iloadn (x := 2) rfl rfl ?_
          refine x_aloadn (x := 59) rfl rfl ?_
          refine y_getI (v := 4) 8 0 rfl f_8_19 rfl (congrArg Prod.fst (F.1 59 (8, 4) rfl rfl)) (F.2.2.1 7552 4 rfl rfl) ?_
          refine x_icge (tgt := 38) rfl rfl (br_f (by decide) ?_)
          refine x_aloadn (x := 59) rfl rfl ?_
          refine x_getR (b := 60) 8 2 rfl f_8_25 rfl (congrArg Prod.fst (F.1 59 (8, 4) rfl rfl)) (F.2.1 7554 60 rfl rfl) ?_
          refine x_iloadn (x := 0) rfl rfl ?_
          refine x_aloadn (x := 59) rfl rfl ?_
          refine y_getI (v := 4) 8 0 rfl f_8_19 rfl (congrArg Prod.fst (F.1 59 (8, 4) rfl rfl)) (F.2.2.1 7552 4 rfl rfl) ?_
          refine y_imul (v := 0) rfl (by decide) ?_
          refine x_iloadn (x := 2) rfl rfl ?_
          refine y_iadd (v := 2) rfl (by decide) ?_
          refine x_iloadn (x := a1) rfl rfl ?_
          refine y_iast (N := 160) 2 rfl (F.1 60 (100, 160) rfl rfl) rfl (jinb_of (by decide)) (by decide) ?_
          refine x_vret rfl rfl ?_
          show jX m_X8_add 99 0 0 50 [(7, .int 0), (0, .ref 59), (1, .int a4), (2, .int a2), (3, .int a1), (4, .int a3), (5, .int 0), (6, .int 0)] [] _ 0 0 _
          refine x_aloadn (x := 59) rfl rfl ?_
          refine x_iload (x := 0) rfl rfl ?_
          refine x_iconst (v := 3) rfl ki_3 ?_
          refine x_iload (x := a3) rfl rfl ?_
          refine x_inv (N := m_X8_put) (As := [.int 0, .int 3, .int a3]) (b := 59) (st := []) (d' := 98) (mc := 0) (ms := 0) (host := "") 8 rfl t_X8_put ⟨Or.inl q_8_29, i_X8_put.1, i_X8_put.2⟩ ⟨by decide, rfl⟩ (congrArg Prod.fst (F.1 59 (8, 4) rfl rfl)) rfl (by decide) rfl rfl ⟨by decide, by decide⟩ (jC.of rfl k_X8_put rfl ?_)
          show jX m_X8_put 98 0 0 0 [(0, .ref 59), (1, .int 0), (2, .int 3), (3, .int a3)] [] _ 0 0 _
          refine x_iloadn (x := 0) rfl rfl ?_
          refine x_iflt (tgt := 38) rfl rfl (br_f (by decide) ?_)
          refine x_iloadn (x := 0) rfl rfl ?_
          refine x_aloadn (x := 59) rfl rfl ?_
          refine y_getI (v := 1) 8 3 rfl f_8_7 rfl (congrArg Prod.fst (F.1 59 (8, 4) rfl rfl)) rfl ?_
          refine x_icge (tgt := 38) rfl rfl (br_f (by decide) ?_)
          refine x_iloadn (x := 3) rfl rfl ?_
          refine x_iflt (tgt := 38) rfl rfl (br_f (by decide) ?_)
          refine x_iloadn (x := 3) rfl rfl ?_
          refine x_aloadn (x := 59) rfl rfl ?_
          refine y_getI (v := 4) 8 0 rfl f_8_19 rfl (congrArg Prod.fst (F.1 59 (8, 4) rfl rfl)) (F.2.2.1 7552 4 rfl rfl) ?_
          refine x_icge (tgt := 38) rfl rfl (br_f (by decide) ?_)
          refine x_aloadn (x := 59) rfl rfl ?_
          refine x_getR (b := 60) 8 2 rfl f_8_25 rfl (congrArg Prod.fst (F.1 59 (8, 4) rfl rfl)) (F.2.1 7554 60 rfl rfl) ?_
          refine x_iloadn (x := 0) rfl rfl ?_
          refine x_aloadn (x := 59) rfl rfl ?_
          refine y_getI (v := 4) 8 0 rfl f_8_19 rfl (congrArg Prod.fst (F.1 59 (8, 4) rfl rfl)) (F.2.2.1 7552 4 rfl rfl) ?_
          refine y_imul (v := 0) rfl (by decide) ?_
          refine x_iloadn (x := 3) rfl rfl ?_
          refine y_iadd (v := 3) rfl (by decide) ?_
          refine x_iloadn (x := a3) rfl rfl ?_
          refine y_iast (N := 160) 3 rfl (F.1 60 (100, 160) rfl rfl) rfl (jinb_of (by decide)) (by decide) ?_
          refine x_vret rfl rfl ?_
          show jX m_X8_add 99 0 0 59 [(7, .int 0), (0, .ref 59), (1, .int a4), (2, .int a2), (3, .int a1), (4, .int a3), (5, .int 0), (6, .int 0)] [] _ 0 0 _
          refine x_aloadn (x := 59) rfl rfl ?_
          refine x_iload (x := 0) rfl rfl ?_
          refine x_iconst (v := 4) rfl ki_4 ?_
          refine x_iload (x := 0) rfl rfl ?_
          refine x_inv (N := m_X8_put) (As := [.int 0, .int 4, .int 0]) (b := 59) (st := []) (d' := 98) (mc := 0) (ms := 0) (host := "") 8 rfl t_X8_put ⟨Or.inl q_8_29, i_X8_put.1, i_X8_put.2⟩ ⟨by decide, rfl⟩ (congrArg Prod.fst (F.1 59 (8, 4) rfl rfl)) rfl (by decide) rfl rfl ⟨by decide, by decide⟩ (jC.of rfl k_X8_put rfl ?_)
          show jX m_X8_put 98 0 0 0 [(0, .ref 59), (1, .int 0), (2, .int 4), (3, .int 0)] [] _ 0 0 _
          refine x_iloadn (x := 0) rfl rfl ?_
          refine x_iflt (tgt := 38) rfl rfl (br_f (by decide) ?_)
          refine x_iloadn (x := 0) rfl rfl ?_
          refine x_aloadn (x := 59) rfl rfl ?_
          refine y_getI (v := 1) 8 3 rfl f_8_7 rfl (congrArg Prod.fst (F.1 59 (8, 4) rfl rfl)) rfl ?_
          refine x_icge (tgt := 38) rfl rfl (br_f (by decide) ?_)
          refine x_iloadn (x := 4) rfl rfl ?_
          refine x_iflt (tgt := 38) rfl rfl (br_f (by decide) ?_)
          refine x_iloadn (x := 4) rfl rfl ?_
          refine x_aloadn (x := 59) rfl rfl ?_
          refine y_getI (v := 4) 8 0 rfl f_8_19 rfl (congrArg Prod.fst (F.1 59 (8, 4) rfl rfl)) (F.2.2.1 7552 4 rfl rfl) ?_
          refine x_icge (tgt := 38) rfl rfl (br_t (by decide) ?_)
          refine x_vret rfl rfl ?_
          show jX m_X8_add 99 0 0 68 [(7, .int 0), (0, .ref 59), (1, .int a4), (2, .int a2), (3, .int a1), (4, .int a3), (5, .int 0), (6, .int 0)] [] _ 0 0 _
          refine x_aloadn (x := 59) rfl rfl ?_
          refine x_iload (x := 0) rfl rfl ?_
          refine x_iconst (v := 5) rfl ki_5 ?_
          refine x_iload (x := 0) rfl rfl ?_
          refine x_inv (N := m_X8_put) (As := [.int 0, .int 5, .int 0]) (b := 59) (st := []) (d' := 98) (mc := 0) (ms := 0) (host := "") 8 rfl t_X8_put ⟨Or.inl q_8_29, i_X8_put.1, i_X8_put.2⟩ ⟨by decide, rfl⟩ (congrArg Prod.fst (F.1 59 (8, 4) rfl rfl)) rfl (by decide) rfl rfl ⟨by decide, by decide⟩ (jC.of rfl k_X8_put rfl ?_)
          show jX m_X8_put 98 0 0 0 [(0, .ref 59), (1, .int 0), (2, .int 5), (3, .int 0)] [] _ 0 0 _
          refine x_iloadn (x := 0) rfl rfl ?_
          refine x_iflt (tgt := 38) rfl rfl (br_f (by decide) ?_)
          refine x_iloadn (x := 0) rfl rfl ?_
          refine x_aloadn (x := 59) rfl rfl ?_
          refine y_getI (v := 1) 8 3 rfl f_8_7 rfl (congrArg Prod.fst (F.1 59 (8, 4) rfl rfl)) rfl ?_
          refine x_icge (tgt := 38) rfl rfl (br_f (by decide) ?_)
          refine x_iloadn (x := 5) rfl rfl ?_
          refine x_iflt (tgt := 38) rfl rfl (br_f (by decide) ?_)
          refine x_iloadn (x := 5) rfl rfl ?_
          refine x_aloadn (x := 59) rfl rfl ?_
          refine y_getI (v := 4) 8 0 rfl f_8_19 rfl (congrArg Prod.fst (F.1 59 (8, 4) rfl rfl)) (F.2.2.1 7552 4 rfl rfl) ?_
          refine x_icge (tgt := 38) rfl rfl (br_t (by decide) ?_)
          refine x_vret rfl rfl ?_
          show jX m_X8_add 99 0 0 77 [(7, .int 0), (0, .ref 59), (1, .int a4), (2, .int a2), (3, .int a1), (4, .int a3), (5, .int 0), (6, .int 0)] [] _ 0 0 _
          refine x_vret rfl rfl ?_
          show jX m_X11_close 100 0 0 105 [(5, .int (-1)), (0, .ref 31), (1, .int a1), (2, .int a2), (3, .int a3), (4, .int a4)] [] _ 0 0 _
          refine x_aloadn (x := 31) rfl rfl ?_
          refine x_iconst (v := 0) rfl ki_0 ?_
          refine x_inv (N := m_X11_accept) (As := [.int 0]) (b := 31) (st := []) (d' := 99) (mc := 0) (ms := 0) (host := "") 11 rfl t_X11_accept ⟨Or.inl q_11_165, i_X11_accept.1, i_X11_accept.2⟩ ⟨by decide, rfl⟩ (congrArg Prod.fst (F.1 31 (11, 13) rfl rfl)) rfl (by decide) rfl rfl ⟨by decide, by decide⟩ (jC.of rfl k_X11_accept rfl ?_)
          show jX m_X11_accept 99 0 0 0 [(0, .ref 31), (1, .int 0)] [] _ 0 0 _
          refine x_aloadn (x := 31) rfl rfl ?_
          refine x_iconst (v := 0) rfl ki_0 ?_
          refine x_putI 11 12 rfl f_11_94 rfl (jfin_no TX11 RX11 13 rfl rfl) (congrArg Prod.fst (F.1 31 (11, 13) rfl rfl)) rfl ?_
          refine x_aloadn (x := 31) rfl rfl ?_
          refine x_getR (b := 32) 11 0 rfl f_11_10 rfl (congrArg Prod.fst (F.1 31 (11, 13) rfl rfl)) (F.2.1 3968 32 rfl rfl) ?_
          refine x_dup rfl rfl ?_
          refine y_getI (v := 1) 1 19 rfl f_11_528 rfl (congrArg Prod.fst (F.1 32 (1, 20) rfl rfl)) (F.2.2.1 4115 1 rfl rfl) ?_
          refine x_iconst (v := 1) rfl ki_1 ?_
          refine y_iadd (v := 2) rfl (by decide) ?_
          refine x_putI 1 19 rfl f_11_528 rfl (jfin_no TX1 RX1 20 rfl rfl) (congrArg Prod.fst (F.1 32 (1, 20) rfl rfl)) rfl ?_
          refine x_iloadn (x := 0) rfl rfl ?_
          refine x_iret rfl rfl ?_
          show jX m_X11_close 100 0 0 110 [(5, .int (-1)), (0, .ref 31), (1, .int a1), (2, .int a2), (3, .int a3), (4, .int a4)] [.int 0] _ 0 0 _
          refine x_iret rfl rfl ?_
          exact jqe (show sp_close a1 a2 a3 a4 = 0 by unfold sp_close; (repeat' split) <;> first | rfl | (exfalso; omega)) (hQ _ (by repeat (first | exact FM | refine jFb_si rfl ?_ | refine jFb_sl rfl ?_ | refine jFb_ci rfl ?_ | refine jFb_cl rfl ?_ | refine jFb_sr rfl ?_)) (by repeat (first | exact O | refine jOl_si rfl ?_ | refine jOl_sl rfl ?_ | refine jOl_ci rfl ?_ | refine jOl_cl rfl ?_ | refine jOl_sr rfl ?_)))
        ·
          refine x_aloadn (x := 31) rfl rfl ?_
          refine x_bipush (v := (-3)) rfl kb_m3 ?_
          refine x_inv (N := m_X11_refuse) (As := [.int (-3)]) (b := 31) (st := []) (d' := 99) (mc := 0) (ms := 0) (host := "") 11 rfl t_X11_refuse ⟨Or.inl q_11_206, i_X11_refuse.1, i_X11_refuse.2⟩ ⟨by decide, rfl⟩ (congrArg Prod.fst (F.1 31 (11, 13) rfl rfl)) rfl (by decide) rfl rfl ⟨by decide, by decide⟩ (jC.of rfl k_X11_refuse rfl ?_)
          show jX m_X11_refuse 99 0 0 0 [(0, .ref 31), (1, .int (-3))] [] _ 0 0 _
          refine x_aloadn (x := 31) rfl rfl ?_
          refine x_iloadn (x := (-3)) rfl rfl ?_
          refine x_putI 11 12 rfl f_11_94 rfl (jfin_no TX11 RX11 13 rfl rfl) (congrArg Prod.fst (F.1 31 (11, 13) rfl rfl)) rfl ?_
          refine x_iloadn (x := (-3)) rfl rfl ?_
          refine x_iret rfl rfl ?_
          show jX m_X11_close 100 0 0 67 [(5, .int (-1)), (0, .ref 31), (1, .int a1), (2, .int a2), (3, .int a3), (4, .int a4)] [.int (-3)] _ 0 0 _
          refine x_iret rfl rfl ?_
          exact jqe (show sp_close a1 a2 a3 a4 = (-3) by unfold sp_close; (repeat' split) <;> first | rfl | (exfalso; omega)) (hQ _ (by repeat (first | exact FM | refine jFb_si rfl ?_ | refine jFb_sl rfl ?_ | refine jFb_ci rfl ?_ | refine jFb_cl rfl ?_ | refine jFb_sr rfl ?_)) (by repeat (first | exact O | refine jOl_si rfl ?_ | refine jOl_sl rfl ?_ | refine jOl_ci rfl ?_ | refine jOl_cl rfl ?_ | refine jOl_sr rfl ?_)))
      ·
        refine x_aloadn (x := 31) rfl rfl ?_
        refine x_iconst (v := (-1)) rfl ki_m1 ?_
        refine x_inv (N := m_X11_refuse) (As := [.int (-1)]) (b := 31) (st := []) (d' := 99) (mc := 0) (ms := 0) (host := "") 11 rfl t_X11_refuse ⟨Or.inl q_11_206, i_X11_refuse.1, i_X11_refuse.2⟩ ⟨by decide, rfl⟩ (congrArg Prod.fst (F.1 31 (11, 13) rfl rfl)) rfl (by decide) rfl rfl ⟨by decide, by decide⟩ (jC.of rfl k_X11_refuse rfl ?_)
        show jX m_X11_refuse 99 0 0 0 [(0, .ref 31), (1, .int (-1))] [] _ 0 0 _
        refine x_aloadn (x := 31) rfl rfl ?_
        refine x_iloadn (x := (-1)) rfl rfl ?_
        refine x_putI 11 12 rfl f_11_94 rfl (jfin_no TX11 RX11 13 rfl rfl) (congrArg Prod.fst (F.1 31 (11, 13) rfl rfl)) rfl ?_
        refine x_iloadn (x := (-1)) rfl rfl ?_
        refine x_iret rfl rfl ?_
        show jX m_X11_close 100 0 0 27 [(0, .ref 31), (1, .int a1), (2, .int a2), (3, .int a3), (4, .int a4)] [.int (-1)] _ 0 0 _
        refine x_iret rfl rfl ?_
        exact jqe (show sp_close a1 a2 a3 a4 = (-1) by unfold sp_close; (repeat' split) <;> first | rfl | (exfalso; omega)) (hQ _ (by repeat (first | exact FM | refine jFb_si rfl ?_ | refine jFb_sl rfl ?_ | refine jFb_ci rfl ?_ | refine jFb_cl rfl ?_ | refine jFb_sr rfl ?_)) (by repeat (first | exact O | refine jOl_si rfl ?_ | refine jOl_sl rfl ?_ | refine jOl_ci rfl ?_ | refine jOl_cl rfl ?_ | refine jOl_sr rfl ?_)))
def sp_balance (a1 a2 a3 : Int32) : Int32 := if (0 ≤ a1.toInt ∧ a1.toInt ≤ 3) ∧ (0 ≤ a2.toInt ∧ a2.toInt ≤ 399) ∧ (0 ≤ a3.toInt ∧ a3.toInt ≤ 146399) then 0 else (-2000000000)
set_option maxRecDepth 100000 in
set_option maxHeartbeats 40000000 in
theorem px_balance (a1 a2 a3 : Int32) {xs : Nat → Int32} {h : jH} {Q : Option Value → jH → Prop} (F : jFb 31 h) (O : jOl 7 xs h) (hQ : ∀ h', jFb 125 h' → jOl 7 xs h' → Q (some (.int (sp_balance a1 a2 a3))) h') : jC m_X11_balance 100 0 0 [.ref 31, .int a1, .int a2, .int a3] h Q := by
  have FM := jFb_up 125 rfl F
  refine jC.of rfl k_X11_balance rfl ?_
  show jX m_X11_balance 100 0 0 0 [(0, .ref 31), (1, .int a1), (2, .int a2), (3, .int a3)] [] _ 0 0 _
  refine x_iloadn (x := a1) rfl rfl ?_
  refine x_inst (N := m_X11_isOffice) (As := [.int a1]) (st := []) (d' := 99) (mc := 0) (ms := 0) (host := "") rfl t_X11_isOffice ⟨Or.inl q_11_456, s_X11_isOffice⟩ rfl (by decide) rfl rfl ⟨by decide, by decide⟩ (c_X11_isOffice (x := a1) ?_)
  show jX m_X11_balance 100 0 0 4 [(0, .ref 31), (1, .int a1), (2, .int a2), (3, .int a3)] [.int (jp (0 ≤ a1.toInt ∧ a1.toInt ≤ 3))] _ 0 0 _
  refine x_ifeq (tgt := 21) rfl rfl (jpe ⟨fun c1 => ?_, fun c1 => ?_⟩)
  ·
    refine x_ldcw (v := (-2000000000)) rfl z_11_455 ?_
    refine x_iret rfl rfl ?_
    exact jqe (show sp_balance a1 a2 a3 = (-2000000000) by unfold sp_balance; (repeat' split) <;> first | rfl | (exfalso; omega)) (hQ _ (by repeat (first | exact FM | refine jFb_si rfl ?_ | refine jFb_sl rfl ?_ | refine jFb_ci rfl ?_ | refine jFb_cl rfl ?_ | refine jFb_sr rfl ?_)) (by repeat (first | exact O | refine jOl_si rfl ?_ | refine jOl_sl rfl ?_ | refine jOl_ci rfl ?_ | refine jOl_cl rfl ?_ | refine jOl_sr rfl ?_)))
  ·
    refine x_iloadn (x := a2) rfl rfl ?_
    refine x_inst (N := m_X11_isYear) (As := [.int a2]) (st := []) (d' := 99) (mc := 0) (ms := 0) (host := "") rfl t_X11_isYear ⟨Or.inl q_11_433, s_X11_isYear⟩ rfl (by decide) rfl rfl ⟨by decide, by decide⟩ (c_X11_isYear (x := a2) ?_)
    show jX m_X11_balance 100 0 0 11 [(0, .ref 31), (1, .int a1), (2, .int a2), (3, .int a3)] [.int (jp (0 ≤ a2.toInt ∧ a2.toInt ≤ 399))] _ 0 0 _
    refine x_ifeq (tgt := 21) rfl rfl (jpe ⟨fun c2 => ?_, fun c2 => ?_⟩)
    ·
      refine x_ldcw (v := (-2000000000)) rfl z_11_455 ?_
      refine x_iret rfl rfl ?_
      exact jqe (show sp_balance a1 a2 a3 = (-2000000000) by unfold sp_balance; (repeat' split) <;> first | rfl | (exfalso; omega)) (hQ _ (by repeat (first | exact FM | refine jFb_si rfl ?_ | refine jFb_sl rfl ?_ | refine jFb_ci rfl ?_ | refine jFb_cl rfl ?_ | refine jFb_sr rfl ?_)) (by repeat (first | exact O | refine jOl_si rfl ?_ | refine jOl_sl rfl ?_ | refine jOl_ci rfl ?_ | refine jOl_cl rfl ?_ | refine jOl_sr rfl ?_)))
    ·
      refine x_iloadn (x := a3) rfl rfl ?_
      refine x_inst (N := m_X11_isDay) (As := [.int a3]) (st := []) (d' := 99) (mc := 0) (ms := 0) (host := "") rfl t_X11_isDay ⟨Or.inl q_11_115, s_X11_isDay⟩ rfl (by decide) rfl rfl ⟨by decide, by decide⟩ (c_X11_isDay (x := a3) ?_)
      show jX m_X11_balance 100 0 0 18 [(0, .ref 31), (1, .int a1), (2, .int a2), (3, .int a3)] [.int (jp (0 ≤ a3.toInt ∧ a3.toInt ≤ 146399))] _ 0 0 _
      refine x_ifne (tgt := 25) rfl rfl (jpn ⟨fun c3 => ?_, fun c3 => ?_⟩)
      ·
        refine x_aloadn (x := 31) rfl rfl ?_
        refine x_iloadn (x := a1) rfl rfl ?_
        refine x_iloadn (x := a2) rfl rfl ?_
        refine x_iloadn (x := a3) rfl rfl ?_
        refine x_inv (N := m_X11_balanceOf) (As := [.int a1, .int a2, .int a3]) (b := 31) (st := []) (d' := 99) (mc := 0) (ms := 0) (host := "") 11 rfl t_X11_balanceOf ⟨Or.inl q_11_479, i_X11_balanceOf.1, i_X11_balanceOf.2⟩ ⟨by decide, rfl⟩ (congrArg Prod.fst (F.1 31 (11, 13) rfl rfl)) rfl (by decide) rfl rfl ⟨by decide, by decide⟩ (jC.of rfl k_X11_balanceOf rfl ?_)
        show jX m_X11_balanceOf 99 0 0 0 [(0, .ref 31), (1, .int a1), (2, .int a2), (3, .int a3)] [] _ 0 0 _
        refine x_iconst (v := 0) rfl ki_0 ?_
        refine x_istore (ls' := [(4, .int 0), (0, .ref 31), (1, .int a1), (2, .int a2), (3, .int a3)]) rfl rfl rfl ?_
        refine x_aloadn (x := 31) rfl rfl ?_
        refine x_iloadn (x := a1) rfl rfl ?_
        refine x_iloadn (x := a2) rfl rfl ?_
        refine x_iconst (v := 1) rfl ki_1 ?_
        refine x_isub rfl ?_
        refine x_inv (N := m_X11_closing) (As := [.int a1, .int (a2 - 1)]) (b := 31) (st := []) (d' := 98) (mc := 0) (ms := 0) (host := "") 11 rfl t_X11_closing ⟨Or.inl q_11_567, i_X11_closing.1, i_X11_closing.2⟩ ⟨by decide, rfl⟩ (congrArg Prod.fst (F.1 31 (11, 13) rfl rfl)) rfl (by decide) rfl rfl ⟨by decide, by decide⟩ (jC.of rfl k_X11_closing rfl ?_)
        show jX m_X11_closing 98 0 0 0 [(0, .ref 31), (1, .int a1), (2, .int (a2 - 1))] [] _ 0 0 _
        refine x_iconst (v := 0) rfl ki_0 ?_
        refine x_istoren (ls' := [(3, .int 0), (0, .ref 31), (1, .int a1), (2, .int (a2 - 1))]) rfl rfl rfl ?_
        refine x_iloadn (x := 0) rfl rfl ?_
        refine x_aloadn (x := 31) rfl rfl ?_
        refine x_getR (b := 32) 11 0 rfl f_11_10 rfl (congrArg Prod.fst (F.1 31 (11, 13) rfl rfl)) (F.2.1 3968 32 rfl rfl) ?_
        refine x_getR (b := 59) 1 13 rfl f_11_482 rfl (congrArg Prod.fst (F.1 32 (1, 20) rfl rfl)) (F.2.1 4109 59 rfl rfl) ?_
        refine y_getI (v := 0) 8 3 rfl f_11_142 rfl (congrArg Prod.fst (F.1 59 (8, 4) rfl rfl)) (F.2.2.1 7555 0 rfl rfl) ?_
        refine x_icge (tgt := 56) rfl rfl (br_t (by decide) ?_)
        refine x_iconst (v := (-1)) rfl ki_m1 ?_
        refine x_iret rfl rfl ?_
        show jX m_X11_balanceOf 99 0 0 11 [(4, .int 0), (0, .ref 31), (1, .int a1), (2, .int a2), (3, .int a3)] [.int (-1)] _ 0 0 _
        refine x_istore (ls' := [(5, .int (-1)), (4, .int 0), (0, .ref 31), (1, .int a1), (2, .int a2), (3, .int a3)]) rfl rfl rfl ?_
        refine x_iload (x := (-1)) rfl rfl ?_
        refine x_iconst (v := (-1)) rfl ki_m1 ?_
        refine x_iceq (tgt := 51) rfl rfl (br_t (by decide) ?_)
        refine x_iconst (v := 0) rfl ki_0 ?_
        refine x_istore (ls' := [(6, .int 0), (5, .int (-1)), (4, .int 0), (0, .ref 31), (1, .int a1), (2, .int a2), (3, .int a3)]) rfl rfl rfl ?_
        refine x_iload (x := 0) rfl rfl ?_
        refine x_aloadn (x := 31) rfl rfl ?_
        refine x_getR (b := 32) 11 0 rfl f_11_10 rfl (congrArg Prod.fst (F.1 31 (11, 13) rfl rfl)) (F.2.1 3968 32 rfl rfl) ?_
        refine x_getR (b := 57) 1 12 rfl f_11_473 rfl (congrArg Prod.fst (F.1 32 (1, 20) rfl rfl)) (F.2.1 4108 57 rfl rfl) ?_
        refine y_getI (v := 0) 8 3 rfl f_11_142 rfl (congrArg Prod.fst (F.1 57 (8, 4) rfl rfl)) (F.2.2.1 7299 0 rfl rfl) ?_
        refine x_icge (tgt := 136) rfl rfl (br_t (by decide) ?_)
        refine x_iload (x := 0) rfl rfl ?_
        refine x_iret rfl rfl ?_
        show jX m_X11_balance 100 0 0 32 [(0, .ref 31), (1, .int a1), (2, .int a2), (3, .int a3)] [.int 0] _ 0 0 _
        refine x_iret rfl rfl ?_
        exact jqe (show sp_balance a1 a2 a3 = 0 by unfold sp_balance; (repeat' split) <;> first | rfl | (exfalso; omega)) (hQ _ (by repeat (first | exact FM | refine jFb_si rfl ?_ | refine jFb_sl rfl ?_ | refine jFb_ci rfl ?_ | refine jFb_cl rfl ?_ | refine jFb_sr rfl ?_)) (by repeat (first | exact O | refine jOl_si rfl ?_ | refine jOl_sl rfl ?_ | refine jOl_ci rfl ?_ | refine jOl_cl rfl ?_ | refine jOl_sr rfl ?_)))
      ·
        refine x_ldcw (v := (-2000000000)) rfl z_11_455 ?_
        refine x_iret rfl rfl ?_
        exact jqe (show sp_balance a1 a2 a3 = (-2000000000) by unfold sp_balance; (repeat' split) <;> first | rfl | (exfalso; omega)) (hQ _ (by repeat (first | exact FM | refine jFb_si rfl ?_ | refine jFb_sl rfl ?_ | refine jFb_ci rfl ?_ | refine jFb_cl rfl ?_ | refine jFb_sr rfl ?_)) (by repeat (first | exact O | refine jOl_si rfl ?_ | refine jOl_sl rfl ?_ | refine jOl_ci rfl ?_ | refine jOl_cl rfl ?_ | refine jOl_sr rfl ?_)))
set_option maxRecDepth 100000 in
set_option maxHeartbeats 40000000 in
theorem pm_balance (a1 a2 a3 : Int32) {xs : Nat → Int32} {h : jH} {Q : Option Value → jH → Prop} (F : jFb 125 h) (O : jOl 7 xs h) (hQ : ∀ h', jOl 7 xs h' → Q (some (.int (sp_balance a1 a2 a3))) h') : jC m_X12_balance 100 0 0 [.ref 125, .int a1, .int a2, .int a3] h Q := by
  refine jC.of rfl k_X12_balance rfl ?_
  show jX m_X12_balance 100 0 0 0 [(0, .ref 125), (1, .int a1), (2, .int a2), (3, .int a3)] [] _ 0 0 _
  refine x_aloadn (x := 125) rfl rfl ?_
  refine x_iconst (v := 0) rfl ki_0 ?_
  refine x_putI 12 0 rfl f_12_180 rfl (jfin_no TX12 RX12 92 rfl rfl) (congrArg Prod.fst (F.1 125 (12, 92) rfl rfl)) rfl ?_
  refine x_iloadn (x := a1) rfl rfl ?_
  refine x_i2l rfl ?_
  refine x_lconst (v := 0) rfl kl_0 ?_
  refine x_ldc2 (v := 3) rfl z_12_195 ?_
  refine x_inst (N := m_X12_in) (As := [.long (a1.toInt64), .long 0, .long 3]) (st := []) (d' := 99) (mc := 0) (ms := 0) (host := "") rfl t_X12_in ⟨Or.inl q_12_188, s_X12_in⟩ rfl (by decide) rfl rfl ⟨by decide, by decide⟩ (c_X12_in (jt_l _) (by decide) (by decide) ?_)
  show jX m_X12_balance 100 0 0 14 [(0, .ref 125), (1, .int a1), (2, .int a2), (3, .int a3)] [.int (jp (0 ≤ a1.toInt ∧ a1.toInt ≤ 3))] _ 0 0 _
  refine x_ifeq (tgt := 41) rfl rfl (jpe ⟨fun c1 => ?_, fun c1 => ?_⟩)
  ·
    refine x_ldcw (v := (-2000000000)) rfl z_12_831 ?_
    refine x_iret rfl rfl ?_
    exact jqe (show sp_balance a1 a2 a3 = (-2000000000) by unfold sp_balance; (repeat' split) <;> first | rfl | (exfalso; omega)) (hQ _ (by repeat (first | exact O | refine jOl_si rfl ?_ | refine jOl_sl rfl ?_ | refine jOl_ci rfl ?_ | refine jOl_cl rfl ?_ | refine jOl_sr rfl ?_)))
  ·
    refine x_iloadn (x := a2) rfl rfl ?_
    refine x_inst (N := m_X12_isYear) (As := [.int a2]) (st := []) (d' := 99) (mc := 0) (ms := 0) (host := "") rfl t_X12_isYear ⟨Or.inl q_12_817, s_X12_isYear⟩ rfl (by decide) rfl rfl ⟨by decide, by decide⟩ (c_X12_isYear (x := a2) ?_)
    show jX m_X12_balance 100 0 0 21 [(0, .ref 125), (1, .int a1), (2, .int a2), (3, .int a3)] [.int (jp (0 ≤ a2.toInt ∧ a2.toInt ≤ 399))] _ 0 0 _
    refine x_ifeq (tgt := 41) rfl rfl (jpe ⟨fun c2 => ?_, fun c2 => ?_⟩)
    ·
      refine x_ldcw (v := (-2000000000)) rfl z_12_831 ?_
      refine x_iret rfl rfl ?_
      exact jqe (show sp_balance a1 a2 a3 = (-2000000000) by unfold sp_balance; (repeat' split) <;> first | rfl | (exfalso; omega)) (hQ _ (by repeat (first | exact O | refine jOl_si rfl ?_ | refine jOl_sl rfl ?_ | refine jOl_ci rfl ?_ | refine jOl_cl rfl ?_ | refine jOl_sr rfl ?_)))
    ·
      refine x_iloadn (x := a3) rfl rfl ?_
      refine x_inst (N := m_X12_isDay) (As := [.int a3]) (st := []) (d' := 99) (mc := 0) (ms := 0) (host := "") rfl t_X12_isDay ⟨Or.inl q_12_273, s_X12_isDay⟩ rfl (by decide) rfl rfl ⟨by decide, by decide⟩ (c_X12_isDay (x := a3) ?_)
      show jX m_X12_balance 100 0 0 28 [(0, .ref 125), (1, .int a1), (2, .int a2), (3, .int a3)] [.int (jp (0 ≤ a3.toInt ∧ a3.toInt ≤ 146399))] _ 0 0 _
      refine x_ifeq (tgt := 41) rfl rfl (jpe ⟨fun c3 => ?_, fun c3 => ?_⟩)
      ·
        refine x_ldcw (v := (-2000000000)) rfl z_12_831 ?_
        refine x_iret rfl rfl ?_
        exact jqe (show sp_balance a1 a2 a3 = (-2000000000) by unfold sp_balance; (repeat' split) <;> first | rfl | (exfalso; omega)) (hQ _ (by repeat (first | exact O | refine jOl_si rfl ?_ | refine jOl_sl rfl ?_ | refine jOl_ci rfl ?_ | refine jOl_cl rfl ?_ | refine jOl_sr rfl ?_)))
      ·
        refine x_aloadn (x := 125) rfl rfl ?_
        refine x_iloadn (x := a1) rfl rfl ?_
        refine x_iloadn (x := a2) rfl rfl ?_
        refine x_iloadn (x := a3) rfl rfl ?_
        refine x_inv (N := m_X12_balanceOf) (As := [.int a1, .int a2, .int a3]) (b := 125) (st := []) (d' := 99) (mc := 0) (ms := 0) (host := "") 12 rfl t_X12_balanceOf ⟨Or.inl q_12_848, i_X12_balanceOf.1, i_X12_balanceOf.2⟩ ⟨by decide, rfl⟩ (congrArg Prod.fst (F.1 125 (12, 92) rfl rfl)) rfl (by decide) rfl rfl ⟨by decide, by decide⟩ (jC.of rfl k_X12_balanceOf rfl ?_)
        show jX m_X12_balanceOf 99 0 0 0 [(0, .ref 125), (1, .int a1), (2, .int a2), (3, .int a3)] [] _ 0 0 _
        refine x_aloadn (x := 125) rfl rfl ?_
        refine x_iloadn (x := a1) rfl rfl ?_
        refine x_iloadn (x := a2) rfl rfl ?_
        refine x_iconst (v := 1) rfl ki_1 ?_
        refine x_isub rfl ?_
        refine x_inv (N := m_X12_closedAt) (As := [.int a1, .int (a2 - 1)]) (b := 125) (st := []) (d' := 98) (mc := 0) (ms := 0) (host := "") 12 rfl t_X12_closedAt ⟨Or.inl q_12_845, i_X12_closedAt.1, i_X12_closedAt.2⟩ ⟨by decide, rfl⟩ (congrArg Prod.fst (F.1 125 (12, 92) rfl rfl)) rfl (by decide) rfl rfl ⟨by decide, by decide⟩ (jC.of rfl k_X12_closedAt rfl ?_)
        show jX m_X12_closedAt 98 0 0 0 [(0, .ref 125), (1, .int a1), (2, .int (a2 - 1))] [] _ 0 0 _
        refine x_iconst (v := (-1)) rfl ki_m1 ?_
        refine x_istoren (ls' := [(3, .int (-1)), (0, .ref 125), (1, .int a1), (2, .int (a2 - 1))]) rfl rfl rfl ?_
        refine x_iconst (v := 0) rfl ki_0 ?_
        refine x_istore (ls' := [(4, .int 0), (3, .int (-1)), (0, .ref 125), (1, .int a1), (2, .int (a2 - 1))]) rfl rfl rfl ?_
        refine x_iload (x := 0) rfl rfl ?_
        refine x_aloadn (x := 125) rfl rfl ?_
        refine x_getR (b := 126) 12 2 rfl f_12_8 rfl (congrArg Prod.fst (F.1 125 (12, 92) rfl rfl)) (F.2.1 16002 126 rfl rfl) ?_
        refine x_bipush (v := 14) rfl kb_14 ?_
        refine y_iald (v := 0) (N := 50660) 14 rfl (F.1 126 (100, 50660) rfl rfl) (jinb_of (by decide)) (by decide) (F.2.2.2.1 126 rfl rfl 14).1 ?_
        refine x_icge (tgt := 64) rfl rfl (br_t (by decide) ?_)
        refine x_iloadn (x := (-1)) rfl rfl ?_
        refine x_iret rfl rfl ?_
        show jX m_X12_balanceOf 99 0 0 8 [(0, .ref 125), (1, .int a1), (2, .int a2), (3, .int a3)] [.int (-1)] _ 0 0 _
        refine x_istore (ls' := [(4, .int (-1)), (0, .ref 125), (1, .int a1), (2, .int a2), (3, .int a3)]) rfl rfl rfl ?_
        refine x_iload (x := (-1)) rfl rfl ?_
        refine x_iconst (v := (-1)) rfl ki_m1 ?_
        refine x_iceq (tgt := 41) rfl rfl (br_t (by decide) ?_)
        refine x_iconst (v := 0) rfl ki_0 ?_
        refine x_istore (ls' := [(5, .int 0), (4, .int (-1)), (0, .ref 125), (1, .int a1), (2, .int a2), (3, .int a3)]) rfl rfl rfl ?_
        refine x_iconst (v := 0) rfl ki_0 ?_
        refine x_istore (ls' := [(6, .int 0), (5, .int 0), (4, .int (-1)), (0, .ref 125), (1, .int a1), (2, .int a2), (3, .int a3)]) rfl rfl rfl ?_
        refine x_iload (x := 0) rfl rfl ?_
        refine x_aloadn (x := 125) rfl rfl ?_
        refine x_getR (b := 126) 12 2 rfl f_12_8 rfl (congrArg Prod.fst (F.1 125 (12, 92) rfl rfl)) (F.2.1 16002 126 rfl rfl) ?_
        refine x_bipush (v := 13) rfl kb_13 ?_
        refine y_iald (v := 0) (N := 50660) 13 rfl (F.1 126 (100, 50660) rfl rfl) (jinb_of (by decide)) (by decide) (F.2.2.2.1 126 rfl rfl 13).1 ?_
        refine x_icge (tgt := 177) rfl rfl (br_t (by decide) ?_)
        refine x_iload (x := 0) rfl rfl ?_
        refine x_iret rfl rfl ?_
        show jX m_X12_balance 100 0 0 38 [(0, .ref 125), (1, .int a1), (2, .int a2), (3, .int a3)] [.int 0] _ 0 0 _
        refine x_goto (tgt := 44) rfl rfl ?_
        refine x_iret rfl rfl ?_
        exact jqe (show sp_balance a1 a2 a3 = 0 by unfold sp_balance; (repeat' split) <;> first | rfl | (exfalso; omega)) (hQ _ (by repeat (first | exact O | refine jOl_si rfl ?_ | refine jOl_sl rfl ?_ | refine jOl_ci rfl ?_ | refine jOl_cl rfl ?_ | refine jOl_sr rfl ?_)))
def sp_beyond (a1 a2 : Int32) : Int32 := (-1)
set_option maxRecDepth 100000 in
set_option maxHeartbeats 40000000 in
theorem px_beyond (a1 a2 : Int32) {xs : Nat → Int32} {h : jH} {Q : Option Value → jH → Prop} (F : jFb 31 h) (O : jOl 7 xs h) (hQ : ∀ h', jFb 125 h' → jOl 7 xs h' → Q (some (.int (sp_beyond a1 a2))) h') : jC m_X11_beyond 100 0 0 [.ref 31, .int a1, .int a2] h Q := by
  have FM := jFb_up 125 rfl F
  refine jC.of rfl k_X11_beyond rfl ?_
  show jX m_X11_beyond 100 0 0 0 [(0, .ref 31), (1, .int a1), (2, .int a2)] [] _ 0 0 _
  refine x_aloadn (x := 31) rfl rfl ?_
  refine x_iloadn (x := a1) rfl rfl ?_
  refine x_iloadn (x := a2) rfl rfl ?_
  refine x_inv (N := m_X11_isKnownLine) (As := [.int a1, .int a2]) (b := 31) (st := []) (d' := 99) (mc := 0) (ms := 0) (host := "") 11 rfl t_X11_isKnownLine ⟨Or.inl q_11_393, i_X11_isKnownLine.1, i_X11_isKnownLine.2⟩ ⟨by decide, rfl⟩ (congrArg Prod.fst (F.1 31 (11, 13) rfl rfl)) rfl (by decide) rfl rfl ⟨by decide, by decide⟩ (jC.of rfl k_X11_isKnownLine rfl ?_)
  show jX m_X11_isKnownLine 99 0 0 0 [(0, .ref 31), (1, .int a1), (2, .int a2)] [] _ 0 0 _
  refine x_iloadn (x := a2) rfl rfl ?_
  refine x_inst (N := m_X11_isDay) (As := [.int a2]) (st := []) (d' := 98) (mc := 0) (ms := 0) (host := "") rfl t_X11_isDay ⟨Or.inl q_11_115, s_X11_isDay⟩ rfl (by decide) rfl rfl ⟨by decide, by decide⟩ (c_X11_isDay (x := a2) ?_)
  show jX m_X11_isKnownLine 99 0 0 4 [(0, .ref 31), (1, .int a1), (2, .int a2)] [.int (jp (0 ≤ a2.toInt ∧ a2.toInt ≤ 146399))] _ 0 0 _
  refine x_ifeq (tgt := 26) rfl rfl (jpe ⟨fun c1 => ?_, fun c1 => ?_⟩)
  ·
    refine x_iconst (v := 0) rfl ki_0 ?_
    refine x_zret rfl rfl (by first | decide | exact jp_01 _) ?_
    show jX m_X11_beyond 100 0 0 6 [(0, .ref 31), (1, .int a1), (2, .int a2)] [.int 0] _ 0 0 _
    refine x_ifeq (tgt := 25) rfl rfl (br_t (by decide) ?_)
    refine x_iconst (v := (-1)) rfl ki_m1 ?_
    refine x_iret rfl rfl ?_
    exact jqe (show sp_beyond a1 a2 = (-1) by unfold sp_beyond; (repeat' split) <;> first | rfl | (exfalso; omega)) (hQ _ (by repeat (first | exact FM | refine jFb_si rfl ?_ | refine jFb_sl rfl ?_ | refine jFb_ci rfl ?_ | refine jFb_cl rfl ?_ | refine jFb_sr rfl ?_)) (by repeat (first | exact O | refine jOl_si rfl ?_ | refine jOl_sl rfl ?_ | refine jOl_ci rfl ?_ | refine jOl_cl rfl ?_ | refine jOl_sr rfl ?_)))
  ·
    refine x_aloadn (x := 31) rfl rfl ?_
    refine x_getR (b := 32) 11 0 rfl f_11_10 rfl (congrArg Prod.fst (F.1 31 (11, 13) rfl rfl)) (F.2.1 3968 32 rfl rfl) ?_
    refine x_getR (b := 33) 1 0 rfl f_11_126 rfl (congrArg Prod.fst (F.1 32 (1, 20) rfl rfl)) (F.2.1 4096 33 rfl rfl) ?_
    refine x_iloadn (x := a1) rfl rfl ?_
    refine x_iloadn (x := a2) rfl rfl ?_
    refine x_inv (N := m_X8_isKnown) (As := [.int a1, .int a2]) (b := 33) (st := []) (d' := 98) (mc := 0) (ms := 0) (host := "") 8 rfl t_X8_isKnown ⟨Or.inl q_11_440, i_X8_isKnown.1, i_X8_isKnown.2⟩ ⟨by decide, rfl⟩ (congrArg Prod.fst (F.1 33 (8, 4) rfl rfl)) rfl (by decide) rfl rfl ⟨by decide, by decide⟩ (jC.of rfl k_X8_isKnown rfl ?_)
    show jX m_X8_isKnown 98 0 0 0 [(0, .ref 33), (1, .int a1), (2, .int a2)] [] _ 0 0 _
    refine x_iloadn (x := a1) rfl rfl ?_
    refine x_iflt (tgt := 31) rfl rfl (ti_lt (show (a1 : Int32).toInt = a1.toInt from rfl) (show (0 : Int32).toInt = 0 by decide) ⟨fun c2 => ?_, fun c2 => ?_⟩)
    ·
      refine x_iconst (v := 0) rfl ki_0 ?_
      refine x_zret rfl rfl (by first | decide | exact jp_01 _) ?_
      show jX m_X11_isKnownLine 99 0 0 19 [(0, .ref 31), (1, .int a1), (2, .int a2)] [.int 0] _ 0 0 _
      refine x_ifeq (tgt := 26) rfl rfl (br_t (by decide) ?_)
      refine x_iconst (v := 0) rfl ki_0 ?_
      refine x_zret rfl rfl (by first | decide | exact jp_01 _) ?_
      show jX m_X11_beyond 100 0 0 6 [(0, .ref 31), (1, .int a1), (2, .int a2)] [.int 0] _ 0 0 _
      refine x_ifeq (tgt := 25) rfl rfl (br_t (by decide) ?_)
      refine x_iconst (v := (-1)) rfl ki_m1 ?_
      refine x_iret rfl rfl ?_
      exact jqe (show sp_beyond a1 a2 = (-1) by unfold sp_beyond; (repeat' split) <;> first | rfl | (exfalso; omega)) (hQ _ (by repeat (first | exact FM | refine jFb_si rfl ?_ | refine jFb_sl rfl ?_ | refine jFb_ci rfl ?_ | refine jFb_cl rfl ?_ | refine jFb_sr rfl ?_)) (by repeat (first | exact O | refine jOl_si rfl ?_ | refine jOl_sl rfl ?_ | refine jOl_ci rfl ?_ | refine jOl_cl rfl ?_ | refine jOl_sr rfl ?_)))
    ·
      refine x_iloadn (x := a1) rfl rfl ?_
      refine x_aloadn (x := 33) rfl rfl ?_
      refine y_getI (v := 0) 8 3 rfl f_8_7 rfl (congrArg Prod.fst (F.1 33 (8, 4) rfl rfl)) (F.2.2.1 4227 0 rfl rfl) ?_
      refine x_icge (tgt := 31) rfl rfl (ti_ge (show (a1 : Int32).toInt = a1.toInt from rfl) (show (0 : Int32).toInt = 0 by decide) ⟨fun c3 => ?_, fun c3 => ?_⟩)
      ·
        refine x_iconst (v := 0) rfl ki_0 ?_
        refine x_zret rfl rfl (by first | decide | exact jp_01 _) ?_
        show jX m_X11_isKnownLine 99 0 0 19 [(0, .ref 31), (1, .int a1), (2, .int a2)] [.int 0] _ 0 0 _
        refine x_ifeq (tgt := 26) rfl rfl (br_t (by decide) ?_)
        refine x_iconst (v := 0) rfl ki_0 ?_
        refine x_zret rfl rfl (by first | decide | exact jp_01 _) ?_
        show jX m_X11_beyond 100 0 0 6 [(0, .ref 31), (1, .int a1), (2, .int a2)] [.int 0] _ 0 0 _
        refine x_ifeq (tgt := 25) rfl rfl (br_t (by decide) ?_)
        refine x_iconst (v := (-1)) rfl ki_m1 ?_
        refine x_iret rfl rfl ?_
        exact jqe (show sp_beyond a1 a2 = (-1) by unfold sp_beyond; (repeat' split) <;> first | rfl | (exfalso; omega)) (hQ _ (by repeat (first | exact FM | refine jFb_si rfl ?_ | refine jFb_sl rfl ?_ | refine jFb_ci rfl ?_ | refine jFb_cl rfl ?_ | refine jFb_sr rfl ?_)) (by repeat (first | exact O | refine jOl_si rfl ?_ | refine jOl_sl rfl ?_ | refine jOl_ci rfl ?_ | refine jOl_cl rfl ?_ | refine jOl_sr rfl ?_)))
      ·
        refine x_aloadn (x := 33) rfl rfl ?_
        refine x_getR (b := 34) 8 2 rfl f_8_25 rfl (congrArg Prod.fst (F.1 33 (8, 4) rfl rfl)) (F.2.1 4226 34 rfl rfl) ?_
        refine x_iloadn (x := a1) rfl rfl ?_
        refine x_aloadn (x := 33) rfl rfl ?_
        refine y_getI (v := 6) 8 0 rfl f_8_19 rfl (congrArg Prod.fst (F.1 33 (8, 4) rfl rfl)) (F.2.2.1 4224 6 rfl rfl) ?_
        refine x_imul rfl ?_
        refine y_iald (v := 0) (N := 1200) (a1 * 6).toNatClampNeg rfl (F.1 34 (100, 1200) rfl rfl) (vpi (by omega)) rfl (F.2.2.2.1 34 rfl rfl _).1 ?_
        refine x_iloadn (x := a2) rfl rfl ?_
        refine x_icgt (tgt := 31) rfl rfl (ti_gt (show (0 : Int32).toInt = 0 by decide) (show (a2 : Int32).toInt = a2.toInt from rfl) ⟨fun c4 => ?_, fun c4 => ?_⟩)
        ·
          refine x_iconst (v := 0) rfl ki_0 ?_
          refine x_zret rfl rfl (by first | decide | exact jp_01 _) ?_
          show jX m_X11_isKnownLine 99 0 0 19 [(0, .ref 31), (1, .int a1), (2, .int a2)] [.int 0] _ 0 0 _
          refine x_ifeq (tgt := 26) rfl rfl (br_t (by decide) ?_)
          refine x_iconst (v := 0) rfl ki_0 ?_
          refine x_zret rfl rfl (by first | decide | exact jp_01 _) ?_
          show jX m_X11_beyond 100 0 0 6 [(0, .ref 31), (1, .int a1), (2, .int a2)] [.int 0] _ 0 0 _
          refine x_ifeq (tgt := 25) rfl rfl (br_t (by decide) ?_)
          refine x_iconst (v := (-1)) rfl ki_m1 ?_
          refine x_iret rfl rfl ?_
          exact jqe (show sp_beyond a1 a2 = (-1) by unfold sp_beyond; (repeat' split) <;> first | rfl | (exfalso; omega)) (hQ _ (by repeat (first | exact FM | refine jFb_si rfl ?_ | refine jFb_sl rfl ?_ | refine jFb_ci rfl ?_ | refine jFb_cl rfl ?_ | refine jFb_sr rfl ?_)) (by repeat (first | exact O | refine jOl_si rfl ?_ | refine jOl_sl rfl ?_ | refine jOl_ci rfl ?_ | refine jOl_cl rfl ?_ | refine jOl_sr rfl ?_)))
        ·
          refine x_iconst (v := 1) rfl ki_1 ?_
          refine x_goto (tgt := 32) rfl rfl ?_
          refine x_zret rfl rfl (by first | decide | exact jp_01 _) ?_
          show jX m_X11_isKnownLine 99 0 0 19 [(0, .ref 31), (1, .int a1), (2, .int a2)] [.int 1] _ 0 0 _
          refine x_ifeq (tgt := 26) rfl rfl (br_f (by decide) ?_)
          refine x_iconst (v := 1) rfl ki_1 ?_
          refine x_goto (tgt := 27) rfl rfl ?_
          refine x_zret rfl rfl (by first | decide | exact jp_01 _) ?_
          show jX m_X11_beyond 100 0 0 6 [(0, .ref 31), (1, .int a1), (2, .int a2)] [.int 1] _ 0 0 _
          refine x_ifeq (tgt := 25) rfl rfl (br_f (by decide) ?_)
          refine x_aloadn (x := 31) rfl rfl ?_
          refine x_getR (b := 32) 11 0 rfl f_11_10 rfl (congrArg Prod.fst (F.1 31 (11, 13) rfl rfl)) (F.2.1 3968 32 rfl rfl) ?_
          refine x_getR (b := 33) 1 0 rfl f_11_126 rfl (congrArg Prod.fst (F.1 32 (1, 20) rfl rfl)) (F.2.1 4096 33 rfl rfl) ?_
          refine x_iloadn (x := a1) rfl rfl ?_
          refine x_iconst (v := 2) rfl ki_2 ?_
          refine x_inv (N := m_X8_at) (As := [.int a1, .int 2]) (b := 33) (st := []) (d' := 99) (mc := 0) (ms := 0) (host := "") 8 rfl t_X8_at ⟨Or.inl q_11_171, i_X8_at.1, i_X8_at.2⟩ ⟨by decide, rfl⟩ (congrArg Prod.fst (F.1 33 (8, 4) rfl rfl)) rfl (by decide) rfl rfl ⟨by decide, by decide⟩ (jC.of rfl k_X8_at rfl ?_)
          show jX m_X8_at 99 0 0 0 [(0, .ref 33), (1, .int a1), (2, .int 2)] [] _ 0 0 _
          refine x_iloadn (x := a1) rfl rfl ?_
          refine x_iflt (tgt := 24) rfl rfl (ti_lt (show (a1 : Int32).toInt = a1.toInt from rfl) (show (0 : Int32).toInt = 0 by decide) (br_f c2 ?_))
          refine x_iloadn (x := a1) rfl rfl ?_
          refine x_aloadn (x := 33) rfl rfl ?_
          refine y_getI (v := 0) 8 3 rfl f_8_7 rfl (congrArg Prod.fst (F.1 33 (8, 4) rfl rfl)) (F.2.2.1 4227 0 rfl rfl) ?_
          refine x_icge (tgt := 24) rfl rfl (ti_ge (show (a1 : Int32).toInt = a1.toInt from rfl) (show (0 : Int32).toInt = 0 by decide) (br_f c3 ?_))
          refine x_iloadn (x := 2) rfl rfl ?_
          refine x_iflt (tgt := 24) rfl rfl (br_f (by decide) ?_)
          refine x_iloadn (x := 2) rfl rfl ?_
          refine x_aloadn (x := 33) rfl rfl ?_
          refine y_getI (v := 6) 8 0 rfl f_8_19 rfl (congrArg Prod.fst (F.1 33 (8, 4) rfl rfl)) (F.2.2.1 4224 6 rfl rfl) ?_
          refine x_iclt (tgt := 26) rfl rfl (br_t (by decide) ?_)
          refine x_aloadn (x := 33) rfl rfl ?_
          refine x_getR (b := 34) 8 2 rfl f_8_25 rfl (congrArg Prod.fst (F.1 33 (8, 4) rfl rfl)) (F.2.1 4226 34 rfl rfl) ?_
          refine x_iloadn (x := a1) rfl rfl ?_
          refine x_aloadn (x := 33) rfl rfl ?_
          refine y_getI (v := 6) 8 0 rfl f_8_19 rfl (congrArg Prod.fst (F.1 33 (8, 4) rfl rfl)) (F.2.2.1 4224 6 rfl rfl) ?_
          refine x_imul rfl ?_
          refine x_iloadn (x := 2) rfl rfl ?_
          refine x_iadd rfl ?_
          refine y_iald (v := 0) (N := 1200) ((a1 * 6) + 2).toNatClampNeg rfl (F.1 34 (100, 1200) rfl rfl) (vpi (by omega)) rfl (F.2.2.2.1 34 rfl rfl _).1 ?_
          refine x_iret rfl rfl ?_
          show jX m_X11_beyond 100 0 0 21 [(0, .ref 31), (1, .int a1), (2, .int a2)] [.int 0] _ 0 0 _
          refine x_iconst (v := 4) rfl ki_4 ?_
          refine x_iceq (tgt := 27) rfl rfl (br_f (by decide) ?_)
          refine x_iconst (v := (-1)) rfl ki_m1 ?_
          refine x_iret rfl rfl ?_
          exact jqe (show sp_beyond a1 a2 = (-1) by unfold sp_beyond; (repeat' split) <;> first | rfl | (exfalso; omega)) (hQ _ (by repeat (first | exact FM | refine jFb_si rfl ?_ | refine jFb_sl rfl ?_ | refine jFb_ci rfl ?_ | refine jFb_cl rfl ?_ | refine jFb_sr rfl ?_)) (by repeat (first | exact O | refine jOl_si rfl ?_ | refine jOl_sl rfl ?_ | refine jOl_ci rfl ?_ | refine jOl_cl rfl ?_ | refine jOl_sr rfl ?_)))
set_option maxRecDepth 100000 in
set_option maxHeartbeats 40000000 in
theorem pm_beyond (a1 a2 : Int32) {xs : Nat → Int32} {h : jH} {Q : Option Value → jH → Prop} (F : jFb 125 h) (O : jOl 7 xs h) (hQ : ∀ h', jOl 7 xs h' → Q (some (.int (sp_beyond a1 a2))) h') : jC m_X12_beyond 100 0 0 [.ref 125, .int a1, .int a2] h Q := by
  refine jC.of rfl k_X12_beyond rfl ?_
  show jX m_X12_beyond 100 0 0 0 [(0, .ref 125), (1, .int a1), (2, .int a2)] [] _ 0 0 _
  refine x_aloadn (x := 125) rfl rfl ?_
  refine x_iconst (v := 0) rfl ki_0 ?_
  refine x_putI 12 0 rfl f_12_180 rfl (jfin_no TX12 RX12 92 rfl rfl) (congrArg Prod.fst (F.1 125 (12, 92) rfl rfl)) rfl ?_
  refine x_aloadn (x := 125) rfl rfl ?_
  refine x_iloadn (x := a1) rfl rfl ?_
  refine x_inv (N := m_X12_isLine) (As := [.int a1]) (b := 125) (st := []) (d' := 99) (mc := 0) (ms := 0) (host := "") 12 rfl t_X12_isLine ⟨Or.inl q_12_293, i_X12_isLine.1, i_X12_isLine.2⟩ ⟨by decide, rfl⟩ (congrArg Prod.fst (F.1 125 (12, 92) rfl rfl)) rfl (by decide) rfl rfl ⟨by decide, by decide⟩ (jC.of rfl k_X12_isLine rfl ?_)
  show jX m_X12_isLine 99 0 0 0 [(0, .ref 125), (1, .int a1)] [] _ 0 0 _
  refine x_iloadn (x := a1) rfl rfl ?_
  refine x_i2l rfl ?_
  refine x_lconst (v := 0) rfl kl_0 ?_
  refine x_aloadn (x := 125) rfl rfl ?_
  refine x_getR (b := 126) 12 2 rfl f_12_8 rfl (congrArg Prod.fst (F.1 125 (12, 92) rfl rfl)) (F.2.1 16002 126 rfl rfl) ?_
  refine x_iconst (v := 0) rfl ki_0 ?_
  refine y_iald (v := 0) (N := 50660) 0 rfl (F.1 126 (100, 50660) rfl rfl) (jinb_of (by decide)) (by decide) (F.2.2.2.1 126 rfl rfl 0).1 ?_
  refine y_i2l (v := 0) rfl (by decide) ?_
  refine x_lconst (v := 1) rfl kl_1 ?_
  refine y_lsub (v := (-1)) rfl (by decide) ?_
  refine x_inst (N := m_X12_in) (As := [.long (a1.toInt64), .long 0, .long (-1)]) (st := []) (d' := 98) (mc := 0) (ms := 0) (host := "") rfl t_X12_in ⟨Or.inl q_12_188, s_X12_in⟩ rfl (by decide) rfl rfl ⟨by decide, by decide⟩ (c_X12_in (jt_l _) (by decide) (by decide) ?_)
  show jX m_X12_isLine 99 0 0 15 [(0, .ref 125), (1, .int a1)] [.int (jp (0 ≤ a1.toInt ∧ a1.toInt ≤ (-1)))] _ 0 0 _
  refine x_zret rfl rfl (by first | decide | exact jp_01 _) ?_
  show jX m_X12_beyond 100 0 0 10 [(0, .ref 125), (1, .int a1), (2, .int a2)] [.int (jp (0 ≤ a1.toInt ∧ a1.toInt ≤ (-1)))] _ 0 0 _
  refine x_ifeq (tgt := 38) rfl rfl (jpe ⟨fun c1 => ?_, fun c1 => ?_⟩)
  ·
    refine x_iconst (v := (-1)) rfl ki_m1 ?_
    refine x_iret rfl rfl ?_
    exact jqe (show sp_beyond a1 a2 = (-1) by unfold sp_beyond; (repeat' split) <;> first | rfl | (exfalso; omega)) (hQ _ (by repeat (first | exact O | refine jOl_si rfl ?_ | refine jOl_sl rfl ?_ | refine jOl_ci rfl ?_ | refine jOl_cl rfl ?_ | refine jOl_sr rfl ?_)))
  ·
    refine x_aloadn (x := 125) rfl rfl ?_
    refine x_iloadn (x := a1) rfl rfl ?_
    refine x_inv (N := m_X12_bookOf) (As := [.int a1]) (b := 125) (st := []) (d' := 99) (mc := 0) (ms := 0) (host := "") 12 rfl t_X12_bookOf ⟨Or.inl q_12_299, i_X12_bookOf.1, i_X12_bookOf.2⟩ ⟨by decide, rfl⟩ (congrArg Prod.fst (F.1 125 (12, 92) rfl rfl)) rfl (by decide) rfl rfl ⟨by decide, by decide⟩ (jC.of rfl k_X12_bookOf rfl ?_)
    show jX m_X12_bookOf 99 0 0 0 [(0, .ref 125), (1, .int a1)] [] _ 0 0 _
    refine x_aloadn (x := 125) rfl rfl ?_
    refine x_getR (b := 126) 12 2 rfl f_12_8 rfl (congrArg Prod.fst (F.1 125 (12, 92) rfl rfl)) (F.2.1 16002 126 rfl rfl) ?_
    refine x_aloadn (x := 125) rfl rfl ?_
    refine x_iloadn (x := a1) rfl rfl ?_
    refine x_inv (N := m_X12_at) (As := [.int a1]) (b := 125) (st := [.ref 126]) (d' := 98) (mc := 0) (ms := 0) (host := "") 12 rfl t_X12_at ⟨Or.inl q_12_254, i_X12_at.1, i_X12_at.2⟩ ⟨by decide, rfl⟩ (congrArg Prod.fst (F.1 125 (12, 92) rfl rfl)) rfl (by decide) rfl rfl ⟨by decide, by decide⟩ (jC.of rfl k_X12_at rfl ?_)
    show jX m_X12_at 98 0 0 0 [(0, .ref 125), (1, .int a1)] [] _ 0 0 _
    refine x_bipush (v := 20) rfl kb_20 ?_
    refine x_bipush (v := 90) rfl kb_90 ?_
    refine x_iloadn (x := a1) rfl rfl ?_
    refine x_imul rfl ?_
    refine x_iadd rfl ?_
    refine x_iret rfl rfl ?_
    show jX m_X12_bookOf 99 0 0 9 [(0, .ref 125), (1, .int a1)] [.int (20 + (90 * a1)), .ref 126] _ 0 0 _
    refine y_iald (v := 0) (N := 50660) (20 + (90 * a1)).toNatClampNeg rfl (F.1 126 (100, 50660) rfl rfl) (vpi (by omega)) rfl (F.2.2.2.1 126 rfl rfl _).1 ?_
    refine x_iret rfl rfl ?_
    show jX m_X12_beyond 100 0 0 18 [(0, .ref 125), (1, .int a1), (2, .int a2)] [.int 0] _ 0 0 _
    refine x_iconst (v := 4) rfl ki_4 ?_
    refine x_icne (tgt := 38) rfl rfl (bn_t (by decide) ?_)
    refine x_iconst (v := (-1)) rfl ki_m1 ?_
    refine x_iret rfl rfl ?_
    exact jqe (show sp_beyond a1 a2 = (-1) by unfold sp_beyond; (repeat' split) <;> first | rfl | (exfalso; omega)) (hQ _ (by repeat (first | exact O | refine jOl_si rfl ?_ | refine jOl_sl rfl ?_ | refine jOl_ci rfl ?_ | refine jOl_cl rfl ?_ | refine jOl_sr rfl ?_)))
