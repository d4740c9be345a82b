set_option maxRecDepth 100000 in
set_option maxHeartbeats 40000000 in
theorem px_spell (a1 : Int32) {xs : Nat → Int32} {h : jH} {Q : Option Value → jH → Prop} (F : jFb 31 h) (O : jOl 7 xs h) (hQ : ∀ h', jFb 125 h' → jOl 7 xs h' → Q (some (.int (sp_spell a1))) h') : jC m_X11_spell 100 0 0 [.ref 31, .int a1] h Q := by
  have FM := jFb_up 125 rfl F
  refine jC.of rfl k_X11_spell rfl ?_
  show jX m_X11_spell 100 0 0 0 [(0, .ref 31), (1, .int a1)] [] _ 0 0 _
  refine x_iloadn (x := a1) rfl rfl ?_
  refine x_iflt (tgt := 10) rfl rfl (ti_lt (show (a1 : Int32).toInt = a1.toInt from rfl) (show (0 : Int32).toInt = 0 by decide) ⟨fun c1 => ?_, fun c1 => ?_⟩)
  ·
    refine x_aloadn (x := 31) rfl rfl ?_
    refine x_iconst (v := (-1)) rfl ki_m1 ?_
    refine x_inv (N := m_X11_refuseTape) (As := [.int (-1)]) (b := 31) (st := []) (d' := 99) (mc := 0) (ms := 0) (host := "") 11 rfl t_X11_refuseTape ⟨Or.inl q_11_122, i_X11_refuseTape.1, i_X11_refuseTape.2⟩ ⟨by decide, rfl⟩ (congrArg Prod.fst (F.1 31 (11, 13) rfl rfl)) rfl (by decide) rfl rfl ⟨by decide, by decide⟩ (jC.of rfl k_X11_refuseTape rfl ?_)
    show jX m_X11_refuseTape 99 0 0 0 [(0, .ref 31), (1, .int (-1))] [] _ 0 0 _
    refine x_aloadn (x := 31) rfl rfl ?_
    refine x_getR (b := 68) 11 2 rfl f_11_23 rfl (congrArg Prod.fst (F.1 31 (11, 13) rfl rfl)) (F.2.1 3970 68 rfl rfl) ?_
    refine x_iconst (v := 0) rfl ki_0 ?_
    refine x_putI 9 1 rfl f_11_106 rfl (jfin_no TX9 RX9 6 rfl rfl) (congrArg Prod.fst (F.1 68 (9, 6) rfl rfl)) rfl ?_
    refine x_aloadn (x := 31) rfl rfl ?_
    refine x_iloadn (x := (-1)) rfl rfl ?_
    refine x_inv (N := m_X11_refuse) (As := [.int (-1)]) (b := 31) (st := []) (d' := 98) (mc := 0) (ms := 0) (host := "") 11 rfl t_X11_refuse ⟨Or.inl q_11_206, i_X11_refuse.1, i_X11_refuse.2⟩ ⟨by decide, rfl⟩ (congrArg Prod.fst (sh_si (F.1 31 (11, 13) rfl rfl))) rfl (by decide) rfl rfl ⟨by decide, by decide⟩ (jC.of rfl k_X11_refuse rfl ?_)
    show jX m_X11_refuse 98 0 0 0 [(0, .ref 31), (1, .int (-1))] [] _ 0 0 _
    refine x_aloadn (x := 31) rfl rfl ?_
    refine x_iloadn (x := (-1)) rfl rfl ?_
    refine x_putI 11 12 rfl f_11_94 rfl (jfin_no TX11 RX11 13 rfl rfl) (congrArg Prod.fst (sh_si (F.1 31 (11, 13) rfl rfl))) rfl ?_
    refine x_iloadn (x := (-1)) rfl rfl ?_
    refine x_iret rfl rfl ?_
    show jX m_X11_refuseTape 99 0 0 13 [(0, .ref 31), (1, .int (-1))] [.int (-1)] _ 0 0 _
    refine x_iret rfl rfl ?_
    show jX m_X11_spell 100 0 0 15 [(0, .ref 31), (1, .int a1)] [.int (-1)] _ 0 0 _
    refine x_iret rfl rfl ?_
    exact jqe (show sp_spell a1 = (-1) by unfold sp_spell; (repeat' split) <;> first | rfl | (exfalso; omega)) (hQ _ (jFb_si rfl (jFb_si rfl FM)) (jOl_si rfl (jOl_si rfl O)))
  ·
    refine x_iloadn (x := a1) rfl rfl ?_
    refine x_bipush (v := 15) rfl kb_15 ?_
    refine x_icle (tgt := 16) rfl rfl (ti_le (show (a1 : Int32).toInt = a1.toInt from rfl) (show (15 : Int32).toInt = 15 by decide) ⟨fun c2 => ?_, fun c2 => ?_⟩)
    ·
      refine x_aloadn (x := 31) rfl rfl ?_
      refine x_getR (b := 70) 11 3 rfl f_11_32 rfl (congrArg Prod.fst (F.1 31 (11, 13) rfl rfl)) (F.2.1 3971 70 rfl rfl) ?_
      refine x_inv (N := m_X5_readPairs) (As := []) (b := 70) (st := []) (d' := 99) (mc := 0) (ms := 0) (host := "") 5 rfl t_X5_readPairs ⟨Or.inl q_11_178, i_X5_readPairs.1, i_X5_readPairs.2⟩ ⟨by decide, rfl⟩ (congrArg Prod.fst (F.1 70 (5, 9) rfl rfl)) rfl (by decide) rfl rfl ⟨by decide, by decide⟩ (jC.of rfl k_X5_readPairs rfl ?_)
      show jX m_X5_readPairs 99 0 0 0 [(0, .ref 70)] [] _ 0 0 _
      refine x_aloadn (x := 70) rfl rfl ?_
      refine x_getR (b := 68) 5 1 rfl f_5_39 rfl (congrArg Prod.fst (F.1 70 (5, 9) rfl rfl)) (F.2.1 8961 68 rfl rfl) ?_
      refine x_inv (N := m_X9_begin) (As := []) (b := 68) (st := []) (d' := 98) (mc := 0) (ms := 0) (host := "") 9 rfl t_X9_begin ⟨Or.inl q_5_43, i_X9_begin.1, i_X9_begin.2⟩ ⟨by decide, rfl⟩ (congrArg Prod.fst (F.1 68 (9, 6) rfl rfl)) rfl (by decide) rfl rfl ⟨by decide, by decide⟩ (jC.of rfl k_X9_begin rfl ?_)
      show jX m_X9_begin 98 0 0 0 [(0, .ref 68)] [] _ 0 0 _
      refine x_aloadn (x := 68) rfl rfl ?_
      refine x_iconst (v := (-1)) rfl ki_m1 ?_
      refine x_putI 9 2 rfl f_9_19 rfl (jfin_no TX9 RX9 6 rfl rfl) (congrArg Prod.fst (F.1 68 (9, 6) rfl rfl)) rfl ?_
      refine x_aloadn (x := 68) rfl rfl ?_
      refine x_iconst (v := 0) rfl ki_0 ?_
      refine x_putI 9 4 rfl f_9_25 rfl (jfin_no TX9 RX9 6 rfl rfl) (congrArg Prod.fst (sh_si (F.1 68 (9, 6) rfl rfl))) rfl ?_
      refine x_aloadn (x := 68) rfl rfl ?_
      refine x_inv (N := m_X9_step) (As := []) (b := 68) (st := []) (d' := 97) (mc := 0) (ms := 0) (host := "") 9 rfl t_X9_step ⟨Or.inl q_9_31, i_X9_step.1, i_X9_step.2⟩ ⟨by decide, rfl⟩ (congrArg Prod.fst (sh_si (sh_si (F.1 68 (9, 6) rfl rfl)))) rfl (by decide) rfl rfl ⟨by decide, by decide⟩ (jC.of rfl k_X9_step rfl ?_)
      show jX m_X9_step 97 0 0 0 [(0, .ref 68)] [] _ 0 0 _
      refine x_aloadn (x := 68) rfl rfl ?_
      refine x_aloadn (x := 68) rfl rfl ?_
      refine y_getI (v := 0) 9 4 rfl f_9_25 rfl (congrArg Prod.fst (sh_si (sh_si (F.1 68 (9, 6) rfl rfl)))) iv_eq ?_
      refine x_putI 9 3 rfl f_9_22 rfl (jfin_no TX9 RX9 6 rfl rfl) (congrArg Prod.fst (sh_si (sh_si (F.1 68 (9, 6) rfl rfl)))) rfl ?_
      refine x_aloadn (x := 68) rfl rfl ?_
      refine y_getI (v := 0) 9 3 rfl f_9_22 rfl (congrArg Prod.fst (sh_si (sh_si (sh_si (F.1 68 (9, 6) rfl rfl))))) iv_eq ?_
      refine x_aloadn (x := 68) rfl rfl ?_
      refine y_getI (v := 0) 9 1 rfl f_9_15 rfl (congrArg Prod.fst (sh_si (sh_si (sh_si (F.1 68 (9, 6) rfl rfl))))) (iv_si rfl (iv_si rfl (iv_si rfl (F.2.2.1 8705 0 rfl rfl)))) ?_
      refine x_icge (tgt := 46) rfl rfl (br_t (by decide) ?_)
      refine x_aloadn (x := 68) rfl rfl ?_
      refine x_aloadn (x := 68) rfl rfl ?_
      refine y_getI (v := 0) 9 3 rfl f_9_22 rfl (congrArg Prod.fst (sh_si (sh_si (sh_si (F.1 68 (9, 6) rfl rfl))))) iv_eq ?_
      refine x_putI 9 4 rfl f_9_25 rfl (jfin_no TX9 RX9 6 rfl rfl) (congrArg Prod.fst (sh_si (sh_si (sh_si (F.1 68 (9, 6) rfl rfl))))) rfl ?_
      refine x_aloadn (x := 68) rfl rfl ?_
      refine y_getI (v := 0) 9 3 rfl f_9_22 rfl (congrArg Prod.fst (sh_si (sh_si (sh_si (sh_si (F.1 68 (9, 6) rfl rfl)))))) (iv_si rfl iv_eq) ?_
      refine x_aloadn (x := 68) rfl rfl ?_
      refine y_getI (v := 0) 9 1 rfl f_9_15 rfl (congrArg Prod.fst (sh_si (sh_si (sh_si (sh_si (F.1 68 (9, 6) rfl rfl)))))) (iv_si rfl (iv_si rfl (iv_si rfl (iv_si rfl (F.2.2.1 8705 0 rfl rfl))))) ?_
      refine x_iclt (tgt := 71) rfl rfl (br_f (by decide) ?_)
      refine x_aloadn (x := 68) rfl rfl ?_
      refine x_iconst (v := 0) rfl ki_0 ?_
      refine x_putI 9 5 rfl f_9_28 rfl (jfin_no TX9 RX9 6 rfl rfl) (congrArg Prod.fst (sh_si (sh_si (sh_si (sh_si (F.1 68 (9, 6) rfl rfl)))))) rfl ?_
      refine x_vret rfl rfl ?_
      show jX m_X9_begin 98 0 0 14 [(0, .ref 68)] [] _ 0 0 _
      refine x_vret rfl rfl ?_
      show jX m_X5_readPairs 99 0 0 7 [(0, .ref 70)] [] _ 0 0 _
      refine x_aloadn (x := 70) rfl rfl ?_
      refine x_getR (b := 68) 5 1 rfl f_5_39 rfl (congrArg Prod.fst (sh_si (sh_si (sh_si (sh_si (sh_si (F.1 70 (5, 9) rfl rfl))))))) (rv_si (rv_si (rv_si (rv_si (rv_si (F.2.1 8961 68 rfl rfl)))))) ?_
      refine x_inv (N := m_X9_isEnd) (As := []) (b := 68) (st := []) (d' := 98) (mc := 0) (ms := 0) (host := "") 9 rfl t_X9_isEnd ⟨Or.inl q_5_60, i_X9_isEnd.1, i_X9_isEnd.2⟩ ⟨by decide, rfl⟩ (congrArg Prod.fst (sh_si (sh_si (sh_si (sh_si (sh_si (F.1 68 (9, 6) rfl rfl))))))) rfl (by decide) rfl rfl ⟨by decide, by decide⟩ (jC.of rfl k_X9_isEnd rfl ?_)
      show jX m_X9_isEnd 98 0 0 0 [(0, .ref 68)] [] _ 0 0 _
      refine x_aloadn (x := 68) rfl rfl ?_
      refine y_getI (v := 0) 9 5 rfl f_9_28 rfl (congrArg Prod.fst (sh_si (sh_si (sh_si (sh_si (sh_si (F.1 68 (9, 6) rfl rfl))))))) iv_eq ?_
      refine x_ifne (tgt := 11) rfl rfl (bn_f (by decide) ?_)
      refine x_iconst (v := 1) rfl ki_1 ?_
      refine x_goto (tgt := 12) rfl rfl ?_
      refine x_zret rfl rfl (by first | decide | exact jp_01 _) ?_
      show jX m_X5_readPairs 99 0 0 14 [(0, .ref 70)] [.int 1] _ 0 0 _
      refine x_ifeq (tgt := 19) rfl rfl (br_f (by decide) ?_)
      refine x_iconst (v := 0) rfl ki_0 ?_
      refine x_iret rfl rfl ?_
      show jX m_X11_spell 100 0 0 23 [(0, .ref 31), (1, .int a1)] [.int 0] _ 0 0 _
      refine x_istoren (ls' := [(2, .int 0), (0, .ref 31), (1, .int a1)]) rfl rfl rfl ?_
      refine x_iloadn (x := 0) rfl rfl ?_
      refine x_iconst (v := (-1)) rfl ki_m1 ?_
      refine x_icne (tgt := 36) rfl rfl (bn_t (by decide) ?_)
      refine x_aloadn (x := 31) rfl rfl ?_
      refine x_getR (b := 68) 11 2 rfl f_11_23 rfl (congrArg Prod.fst (sh_si (sh_si (sh_si (sh_si (sh_si (F.1 31 (11, 13) rfl rfl))))))) (rv_si (rv_si (rv_si (rv_si (rv_si (F.2.1 3970 68 rfl rfl)))))) ?_
      refine x_iconst (v := 0) rfl ki_0 ?_
      refine x_putI 9 1 rfl f_11_106 rfl (jfin_no TX9 RX9 6 rfl rfl) (congrArg Prod.fst (sh_si (sh_si (sh_si (sh_si (sh_si (F.1 68 (9, 6) rfl rfl))))))) rfl ?_
      refine x_aloadn (x := 31) rfl rfl ?_
      refine x_getR (b := 70) 11 3 rfl f_11_32 rfl (congrArg Prod.fst (sh_si (sh_si (sh_si (sh_si (sh_si (sh_si (F.1 31 (11, 13) rfl rfl)))))))) (rv_si (rv_si (rv_si (rv_si (rv_si (rv_si (F.2.1 3971 70 rfl rfl))))))) ?_
      refine x_iloadn (x := a1) rfl rfl ?_
      refine x_iloadn (x := 0) rfl rfl ?_
      refine x_inv (N := m_X5_keepPairs) (As := [.int a1, .int 0]) (b := 70) (st := []) (d' := 99) (mc := 0) (ms := 0) (host := "") 5 rfl t_X5_keepPairs ⟨Or.inl q_11_182, i_X5_keepPairs.1, i_X5_keepPairs.2⟩ ⟨by decide, rfl⟩ (congrArg Prod.fst (sh_si (sh_si (sh_si (sh_si (sh_si (sh_si (F.1 70 (5, 9) rfl rfl)))))))) rfl (by decide) rfl rfl ⟨by decide, by decide⟩ (jC.of rfl k_X5_keepPairs rfl ?_)
      show jX m_X5_keepPairs 99 0 0 0 [(0, .ref 70), (1, .int a1), (2, .int 0)] [] _ 0 0 _
      refine x_iloadn (x := a1) rfl rfl ?_
      refine x_iflt (tgt := 50) rfl rfl (ti_lt (show (a1 : Int32).toInt = a1.toInt from rfl) (show (0 : Int32).toInt = 0 by decide) (br_f c1 ?_))
      refine x_iloadn (x := a1) rfl rfl ?_
      refine x_bipush (v := 15) rfl kb_15 ?_
      refine x_icgt (tgt := 50) rfl rfl (ti_gt (show (a1 : Int32).toInt = a1.toInt from rfl) (show (15 : Int32).toInt = 15 by decide) ⟨fun c3 => ?_, fun c3 => ?_⟩)
      ·
        exfalso
        omega
      ·
        refine x_iloadn (x := 0) rfl rfl ?_
        refine x_iflt (tgt := 50) rfl rfl (br_f (by decide) ?_)
        refine x_iloadn (x := 0) rfl rfl ?_
        refine x_bipush (v := 8) rfl kb_8 ?_
        refine x_icgt (tgt := 50) rfl rfl (br_f (by decide) ?_)
        refine x_aloadn (x := 70) rfl rfl ?_
        refine x_getR (b := 72) 5 3 rfl f_5_15 rfl (congrArg Prod.fst (sh_si (sh_si (sh_si (sh_si (sh_si (sh_si (F.1 70 (5, 9) rfl rfl)))))))) (rv_si (rv_si (rv_si (rv_si (rv_si (rv_si (F.2.1 8963 72 rfl rfl))))))) ?_
        refine x_iconst (v := 0) rfl ki_0 ?_
        refine x_aloadn (x := 70) rfl rfl ?_
        refine x_getR (b := 73) 5 4 rfl f_5_18 rfl (congrArg Prod.fst (sh_si (sh_si (sh_si (sh_si (sh_si (sh_si (F.1 70 (5, 9) rfl rfl)))))))) (rv_si (rv_si (rv_si (rv_si (rv_si (rv_si (F.2.1 8964 73 rfl rfl))))))) ?_
        refine x_iloadn (x := a1) rfl rfl ?_
        refine x_aloadn (x := 70) rfl rfl ?_
        refine x_getR (b := 72) 5 3 rfl f_5_15 rfl (congrArg Prod.fst (sh_si (sh_si (sh_si (sh_si (sh_si (sh_si (F.1 70 (5, 9) rfl rfl)))))))) (rv_si (rv_si (rv_si (rv_si (rv_si (rv_si (F.2.1 8963 72 rfl rfl))))))) ?_
        refine y_alen (N := 64) (v := 64) rfl (sh_si (sh_si (sh_si (sh_si (sh_si (sh_si (F.1 72 (100, 64) rfl rfl))))))) (by decide) (by decide) ?_
        refine x_imul rfl ?_
        have c4 := jmulr (x := a1) (y := 64) (n := 64) (by decide) (by omega)
        refine x_iloadn (x := 0) rfl rfl ?_
        refine x_bipush (v := 8) rfl kb_8 ?_
        refine y_imul (v := 0) rfl (by decide) ?_
        refine y_cpi (N1 := 64) (N2 := 1024) 0 (a1 * 64).toNatClampNeg 0 rfl ⟨q_5_96, jcp_w⟩ (by decide) rfl rfl rfl (sh_si (sh_si (sh_si (sh_si (sh_si (sh_si (F.1 72 (100, 64) rfl rfl))))))) (sh_si (sh_si (sh_si (sh_si (sh_si (sh_si (F.1 73 (100, 1024) rfl rfl))))))) (by decide) (jnneg (by omega)) (by decide) (by decide) rfl (by decide) (by decide) (jclb (by omega)) ?_
        refine x_aloadn (x := 70) rfl rfl ?_
        refine x_getR (b := 74) 5 5 rfl f_5_21 rfl (congrArg Prod.fst (sh_ci (sh_si (sh_si (sh_si (sh_si (sh_si (sh_si (F.1 70 (5, 9) rfl rfl))))))))) (rv_ci (rv_si (rv_si (rv_si (rv_si (rv_si (rv_si (F.2.1 8965 74 rfl rfl)))))))) ?_
        refine x_iloadn (x := a1) rfl rfl ?_
        refine x_iloadn (x := 0) rfl rfl ?_
        refine y_iast (N := 16) a1.toNatClampNeg rfl (sh_ci (sh_si (sh_si (sh_si (sh_si (sh_si (sh_si (F.1 74 (100, 16) rfl rfl)))))))) rfl (vpi (by omega)) rfl ?_
        refine x_vret rfl rfl ?_
        show jX m_X11_spell 100 0 0 53 [(2, .int 0), (0, .ref 31), (1, .int a1)] [] _ 0 0 _
        refine x_iconst (v := 0) rfl ki_0 ?_
        refine x_istoren (ls' := [(3, .int 0), (2, .int 0), (0, .ref 31), (1, .int a1)]) rfl rfl rfl ?_
        refine x_iloadn (x := 0) rfl rfl ?_
        refine x_aloadn (x := 31) rfl rfl ?_
        refine x_getR (b := 32) 11 0 rfl f_11_10 rfl (congrArg Prod.fst (sh_si (sh_ci (sh_si (sh_si (sh_si (sh_si (sh_si (sh_si (F.1 31 (11, 13) rfl rfl)))))))))) (rv_si (rv_ci (rv_si (rv_si (rv_si (rv_si (rv_si (rv_si (F.2.1 3968 32 rfl rfl))))))))) ?_
        refine x_getR (b := 33) 1 0 rfl f_11_126 rfl (congrArg Prod.fst (sh_si (sh_ci (sh_si (sh_si (sh_si (sh_si (sh_si (sh_si (F.1 32 (1, 20) rfl rfl)))))))))) (rv_si (rv_ci (rv_si (rv_si (rv_si (rv_si (rv_si (rv_si (F.2.1 4096 33 rfl rfl))))))))) ?_
        refine y_getI (v := 0) 8 3 rfl f_11_142 rfl (congrArg Prod.fst (sh_si (sh_ci (sh_si (sh_si (sh_si (sh_si (sh_si (sh_si (F.1 33 (8, 4) rfl rfl)))))))))) (iv_si rfl (iv_ci rfl (iv_si rfl (iv_si rfl (iv_si rfl (iv_si rfl (iv_si rfl (iv_si rfl (F.2.2.1 4227 0 rfl rfl))))))))) ?_
        refine x_icge (tgt := 99) rfl rfl (br_t (by decide) ?_)
        refine x_aloadn (x := 31) rfl rfl ?_
        refine x_iloadn (x := 0) rfl rfl ?_
        refine x_inv (N := m_X11_accept) (As := [.int 0]) (b := 31) (st := []) (d' := 99) (mc := 0) (ms := 0) (host := "") 11 rfl t_X11_accept ⟨Or.inl q_11_165, i_X11_accept.1, i_X11_accept.2⟩ ⟨by decide, rfl⟩ (congrArg Prod.fst (sh_si (sh_ci (sh_si (sh_si (sh_si (sh_si (sh_si (sh_si (F.1 31 (11, 13) rfl rfl)))))))))) rfl (by decide) rfl rfl ⟨by decide, by decide⟩ (jC.of rfl k_X11_accept rfl ?_)
        show jX m_X11_accept 99 0 0 0 [(0, .ref 31), (1, .int 0)] [] _ 0 0 _
        refine x_aloadn (x := 31) rfl rfl ?_
        refine x_iconst (v := 0) rfl ki_0 ?_
        refine x_putI 11 12 rfl f_11_94 rfl (jfin_no TX11 RX11 13 rfl rfl) (congrArg Prod.fst (sh_si (sh_ci (sh_si (sh_si (sh_si (sh_si (sh_si (sh_si (F.1 31 (11, 13) rfl rfl)))))))))) rfl ?_
        refine x_aloadn (x := 31) rfl rfl ?_
        refine x_getR (b := 32) 11 0 rfl f_11_10 rfl (congrArg Prod.fst (sh_si (sh_si (sh_ci (sh_si (sh_si (sh_si (sh_si (sh_si (sh_si (F.1 31 (11, 13) rfl rfl))))))))))) (rv_si (rv_si (rv_ci (rv_si (rv_si (rv_si (rv_si (rv_si (rv_si (F.2.1 3968 32 rfl rfl)))))))))) ?_
        refine x_dup rfl rfl ?_
        refine y_getI (v := 1) 1 19 rfl f_11_528 rfl (congrArg Prod.fst (sh_si (sh_si (sh_ci (sh_si (sh_si (sh_si (sh_si (sh_si (sh_si (F.1 32 (1, 20) rfl rfl))))))))))) (iv_si rfl (iv_si rfl (iv_ci rfl (iv_si rfl (iv_si rfl (iv_si rfl (iv_si rfl (iv_si rfl (iv_si rfl (F.2.2.1 4115 1 rfl rfl)))))))))) ?_
        refine x_iconst (v := 1) rfl ki_1 ?_
        refine y_iadd (v := 2) rfl (by decide) ?_
        refine x_putI 1 19 rfl f_11_528 rfl (jfin_no TX1 RX1 20 rfl rfl) (congrArg Prod.fst (sh_si (sh_si (sh_ci (sh_si (sh_si (sh_si (sh_si (sh_si (sh_si (F.1 32 (1, 20) rfl rfl))))))))))) rfl ?_
        refine x_iloadn (x := 0) rfl rfl ?_
        refine x_iret rfl rfl ?_
        show jX m_X11_spell 100 0 0 104 [(3, .int 0), (2, .int 0), (0, .ref 31), (1, .int a1)] [.int 0] _ 0 0 _
        refine x_iret rfl rfl ?_
        exact jqe (show sp_spell a1 = 0 by unfold sp_spell; (repeat' split) <;> first | rfl | (exfalso; omega)) (hQ _ (jFb_si rfl (jFb_si rfl (jFb_si rfl (jFb_ci rfl (jFb_si rfl (jFb_si rfl (jFb_si rfl (jFb_si rfl (jFb_si rfl (jFb_si rfl FM)))))))))) (jOl_si rfl (jOl_si rfl (jOl_si rfl (jOl_ci rfl (jOl_si rfl (jOl_si rfl (jOl_si rfl (jOl_si rfl (jOl_si rfl (jOl_si rfl O)))))))))))
    ·
      refine x_aloadn (x := 31) rfl rfl ?_
      refine x_iconst (v := (-1)) rfl ki_m1 ?_
      refine x_inv (N := m_X11_refuseTape) (As := [.int (-1)]) (b := 31) (st := []) (d' := 99) (mc := 0) (ms := 0) (host := "") 11 rfl t_X11_refuseTape ⟨Or.inl q_11_122, i_X11_refuseTape.1, i_X11_refuseTape.2⟩ ⟨by decide, rfl⟩ (congrArg Prod.fst (F.1 31 (11, 13) rfl rfl)) rfl (by decide) rfl rfl ⟨by decide, by decide⟩ (jC.of rfl k_X11_refuseTape rfl ?_)
      show jX m_X11_refuseTape 99 0 0 0 [(0, .ref 31), (1, .int (-1))] [] _ 0 0 _
      refine x_aloadn (x := 31) rfl rfl ?_
      refine x_getR (b := 68) 11 2 rfl f_11_23 rfl (congrArg Prod.fst (F.1 31 (11, 13) rfl rfl)) (F.2.1 3970 68 rfl rfl) ?_
      refine x_iconst (v := 0) rfl ki_0 ?_
      refine x_putI 9 1 rfl f_11_106 rfl (jfin_no TX9 RX9 6 rfl rfl) (congrArg Prod.fst (F.1 68 (9, 6) rfl rfl)) rfl ?_
      refine x_aloadn (x := 31) rfl rfl ?_
      refine x_iloadn (x := (-1)) rfl rfl ?_
      refine x_inv (N := m_X11_refuse) (As := [.int (-1)]) (b := 31) (st := []) (d' := 98) (mc := 0) (ms := 0) (host := "") 11 rfl t_X11_refuse ⟨Or.inl q_11_206, i_X11_refuse.1, i_X11_refuse.2⟩ ⟨by decide, rfl⟩ (congrArg Prod.fst (sh_si (F.1 31 (11, 13) rfl rfl))) rfl (by decide) rfl rfl ⟨by decide, by decide⟩ (jC.of rfl k_X11_refuse rfl ?_)
      show jX m_X11_refuse 98 0 0 0 [(0, .ref 31), (1, .int (-1))] [] _ 0 0 _
      refine x_aloadn (x := 31) rfl rfl ?_
      refine x_iloadn (x := (-1)) rfl rfl ?_
      refine x_putI 11 12 rfl f_11_94 rfl (jfin_no TX11 RX11 13 rfl rfl) (congrArg Prod.fst (sh_si (F.1 31 (11, 13) rfl rfl))) rfl ?_
      refine x_iloadn (x := (-1)) rfl rfl ?_
      refine x_iret rfl rfl ?_
      show jX m_X11_refuseTape 99 0 0 13 [(0, .ref 31), (1, .int (-1))] [.int (-1)] _ 0 0 _
      refine x_iret rfl rfl ?_
      show jX m_X11_spell 100 0 0 15 [(0, .ref 31), (1, .int a1)] [.int (-1)] _ 0 0 _
      refine x_iret rfl rfl ?_
      exact jqe (show sp_spell a1 = (-1) by unfold sp_spell; (repeat' split) <;> first | rfl | (exfalso; omega)) (hQ _ (jFb_si rfl (jFb_si rfl FM)) (jOl_si rfl (jOl_si rfl O)))
set_option maxRecDepth 100000 in
set_option maxHeartbeats 40000000 in
theorem pm_spell (a1 : Int32) {xs : Nat → Int32} {h : jH} {Q : Option Value → jH → Prop} (F : jFb 125 h) (O : jOl 7 xs h) (hQ : ∀ h', jOl 7 xs h' → Q (some (.int (sp_spell a1))) h') : jC m_X12_spell 100 0 0 [.ref 125, .int a1] h Q := by
  refine jC.of rfl k_X12_spell rfl ?_
  show jX m_X12_spell 100 0 0 0 [(0, .ref 125), (1, .int a1)] [] _ 0 0 _
  refine x_aloadn (x := 125) rfl rfl ?_
  refine x_iconst (v := 0) rfl ki_0 ?_
  refine x_putI 12 0 rfl f_12_180 rfl (jfin_no TX12 RX12 92 rfl rfl) (congrArg Prod.fst (F.1 125 (12, 92) rfl rfl)) rfl ?_
  refine x_iloadn (x := a1) rfl rfl ?_
  refine x_i2l rfl ?_
  refine x_lconst (v := 0) rfl kl_0 ?_
  refine x_ldc2 (v := 15) rfl z_12_271 ?_
  refine x_inst (N := m_X12_in) (As := [.long (a1.toInt64), .long 0, .long 15]) (st := []) (d' := 99) (mc := 0) (ms := 0) (host := "") rfl t_X12_in ⟨Or.inl q_12_188, s_X12_in⟩ rfl (by decide) rfl rfl ⟨by decide, by decide⟩ (c_X12_in (m := a1.toInt) (a := 0) (b := 15) (jt_l _) (by decide) (by decide) ?_)
  show jX m_X12_spell 100 0 0 14 [(0, .ref 125), (1, .int a1)] [.int (jp (0 ≤ a1.toInt ∧ a1.toInt ≤ 15))] _ 0 0 _
  refine x_ifne (tgt := 28) rfl rfl (jpn ⟨fun c1 => ?_, fun c1 => ?_⟩)
  ·
    refine x_aloadn (x := 125) rfl rfl ?_
    refine x_inv (N := m_X12_begin) (As := []) (b := 125) (st := []) (d' := 99) (mc := 0) (ms := 0) (host := "") 12 rfl t_X12_begin ⟨Or.inl q_12_280, i_X12_begin.1, i_X12_begin.2⟩ ⟨by decide, rfl⟩ (congrArg Prod.fst (sh_si (F.1 125 (12, 92) rfl rfl))) rfl (by decide) rfl rfl ⟨by decide, by decide⟩ (jC.of rfl k_X12_begin rfl ?_)
    show jX m_X12_begin 99 0 0 0 [(0, .ref 125)] [] _ 0 0 _
    refine x_aloadn (x := 125) rfl rfl ?_
    refine x_iconst (v := 0) rfl ki_0 ?_
    refine x_putI 12 10 rfl f_12_211 rfl (jfin_no TX12 RX12 92 rfl rfl) (congrArg Prod.fst (sh_si (F.1 125 (12, 92) rfl rfl))) rfl ?_
    refine x_aloadn (x := 125) rfl rfl ?_
    refine x_iconst (v := 0) rfl ki_0 ?_
    refine x_putZ 12 14 rfl f_12_214 rfl (jfin_no TX12 RX12 92 rfl rfl) (congrArg Prod.fst (sh_si (sh_si (F.1 125 (12, 92) rfl rfl)))) rfl (by decide) ?_
    refine x_aloadn (x := 125) rfl rfl ?_
    refine x_iconst (v := (-1)) rfl ki_m1 ?_
    refine x_putI 12 13 rfl f_12_32 rfl (jfin_no TX12 RX12 92 rfl rfl) (congrArg Prod.fst (sh_si (sh_si (sh_si (F.1 125 (12, 92) rfl rfl))))) rfl ?_
    refine x_aloadn (x := 125) rfl rfl ?_
    refine x_inv (N := m_X12_next) (As := []) (b := 125) (st := []) (d' := 98) (mc := 0) (ms := 0) (host := "") 12 rfl t_X12_next ⟨Or.inl q_12_218, i_X12_next.1, i_X12_next.2⟩ ⟨by decide, rfl⟩ (congrArg Prod.fst (sh_si (sh_si (sh_si (sh_si (F.1 125 (12, 92) rfl rfl)))))) rfl (by decide) rfl rfl ⟨by decide, by decide⟩ (jC.of rfl k_X12_next rfl ?_)
    show jX m_X12_next 98 0 0 0 [(0, .ref 125)] [] _ 0 0 _
    refine x_aloadn (x := 125) rfl rfl ?_
    refine x_aloadn (x := 125) rfl rfl ?_
    refine y_getI (v := 0) 12 10 rfl f_12_211 rfl (congrArg Prod.fst (sh_si (sh_si (sh_si (sh_si (F.1 125 (12, 92) rfl rfl)))))) (iv_si rfl (iv_si rfl iv_eq)) ?_
    refine x_putI 12 9 rfl f_12_221 rfl (jfin_no TX12 RX12 92 rfl rfl) (congrArg Prod.fst (sh_si (sh_si (sh_si (sh_si (F.1 125 (12, 92) rfl rfl)))))) rfl ?_
    refine x_aloadn (x := 125) rfl rfl ?_
    refine y_getI (v := 0) 12 9 rfl f_12_221 rfl (congrArg Prod.fst (sh_si (sh_si (sh_si (sh_si (sh_si (F.1 125 (12, 92) rfl rfl))))))) iv_eq ?_
    refine x_aloadn (x := 125) rfl rfl ?_
    refine y_getI (v := 0) 12 8 rfl f_12_201 rfl (congrArg Prod.fst (sh_si (sh_si (sh_si (sh_si (sh_si (F.1 125 (12, 92) rfl rfl))))))) (iv_si rfl (iv_si rfl (iv_si rfl (iv_si rfl (iv_si rfl (F.2.2.1 16008 0 rfl rfl)))))) ?_
    refine x_icge (tgt := 46) rfl rfl (br_t (by decide) ?_)
    refine x_aloadn (x := 125) rfl rfl ?_
    refine x_aloadn (x := 125) rfl rfl ?_
    refine y_getI (v := 0) 12 9 rfl f_12_221 rfl (congrArg Prod.fst (sh_si (sh_si (sh_si (sh_si (sh_si (F.1 125 (12, 92) rfl rfl))))))) iv_eq ?_
    refine x_putI 12 10 rfl f_12_211 rfl (jfin_no TX12 RX12 92 rfl rfl) (congrArg Prod.fst (sh_si (sh_si (sh_si (sh_si (sh_si (F.1 125 (12, 92) rfl rfl))))))) rfl ?_
    refine x_aloadn (x := 125) rfl rfl ?_
    refine x_lconst (v := 0) rfl kl_0 ?_
    refine x_putL 12 12 rfl f_12_224 rfl (jfin_no TX12 RX12 92 rfl rfl) (congrArg Prod.fst (sh_si (sh_si (sh_si (sh_si (sh_si (sh_si (F.1 125 (12, 92) rfl rfl)))))))) rfl ?_
    refine x_aloadn (x := 125) rfl rfl ?_
    refine x_aloadn (x := 125) rfl rfl ?_
    refine y_getI (v := 0) 12 9 rfl f_12_221 rfl (congrArg Prod.fst (sh_sl (sh_si (sh_si (sh_si (sh_si (sh_si (sh_si (F.1 125 (12, 92) rfl rfl))))))))) (iv_sl (iv_si rfl iv_eq)) ?_
    refine x_aloadn (x := 125) rfl rfl ?_
    refine y_getI (v := 0) 12 8 rfl f_12_201 rfl (congrArg Prod.fst (sh_sl (sh_si (sh_si (sh_si (sh_si (sh_si (sh_si (F.1 125 (12, 92) rfl rfl))))))))) (iv_sl (iv_si rfl (iv_si rfl (iv_si rfl (iv_si rfl (iv_si rfl (iv_si rfl (F.2.2.1 16008 0 rfl rfl)))))))) ?_
    refine x_icne (tgt := 75) rfl rfl (bn_f (by decide) ?_)
    refine x_iconst (v := 0) rfl ki_0 ?_
    refine x_goto (tgt := 114) rfl rfl ?_
    refine x_putI 12 11 rfl f_12_235 rfl (jfin_no TX12 RX12 92 rfl rfl) (congrArg Prod.fst (sh_sl (sh_si (sh_si (sh_si (sh_si (sh_si (sh_si (F.1 125 (12, 92) rfl rfl))))))))) rfl ?_
    refine x_aloadn (x := 125) rfl rfl ?_
    refine y_getI (v := 0) 12 11 rfl f_12_235 rfl (congrArg Prod.fst (sh_si (sh_sl (sh_si (sh_si (sh_si (sh_si (sh_si (sh_si (F.1 125 (12, 92) rfl rfl)))))))))) iv_eq ?_
    refine x_iconst (v := 3) rfl ki_3 ?_
    refine x_icne (tgt := 149) rfl rfl (bn_t (by decide) ?_)
    refine x_aloadn (x := 125) rfl rfl ?_
    refine y_getI (v := 0) 12 11 rfl f_12_235 rfl (congrArg Prod.fst (sh_si (sh_sl (sh_si (sh_si (sh_si (sh_si (sh_si (sh_si (F.1 125 (12, 92) rfl rfl)))))))))) iv_eq ?_
    refine x_iconst (v := 1) rfl ki_1 ?_
    refine x_icne (tgt := 243) rfl rfl (bn_t (by decide) ?_)
    refine x_aloadn (x := 125) rfl rfl ?_
    refine y_getI (v := 0) 12 11 rfl f_12_235 rfl (congrArg Prod.fst (sh_si (sh_sl (sh_si (sh_si (sh_si (sh_si (sh_si (sh_si (F.1 125 (12, 92) rfl rfl)))))))))) iv_eq ?_
    refine x_iconst (v := 2) rfl ki_2 ?_
    refine x_icne (tgt := 335) rfl rfl (bn_t (by decide) ?_)
    refine x_vret rfl rfl ?_
    show jX m_X12_begin 99 0 0 19 [(0, .ref 125)] [] _ 0 0 _
    refine x_vret rfl rfl ?_
    show jX m_X12_spell 100 0 0 32 [(0, .ref 125), (1, .int a1)] [] _ 0 0 _
    refine x_aloadn (x := 125) rfl rfl ?_
    refine x_iconst (v := 0) rfl ki_0 ?_
    refine x_putI 12 18 rfl f_12_302 rfl (jfin_no TX12 RX12 92 rfl rfl) (congrArg Prod.fst (sh_si (sh_sl (sh_si (sh_si (sh_si (sh_si (sh_si (sh_si (F.1 125 (12, 92) rfl rfl)))))))))) rfl ?_
    refine x_aloadn (x := 125) rfl rfl ?_
    refine y_getI (v := 0) 12 11 rfl f_12_235 rfl (congrArg Prod.fst (sh_si (sh_si (sh_sl (sh_si (sh_si (sh_si (sh_si (sh_si (sh_si (F.1 125 (12, 92) rfl rfl))))))))))) (iv_si rfl iv_eq) ?_
    refine x_ifeq (tgt := 94) rfl rfl (br_t (by decide) ?_)
    refine x_aloadn (x := 125) rfl rfl ?_
    refine x_iconst (v := 0) rfl ki_0 ?_
    refine x_putI 12 8 rfl f_12_201 rfl (jfin_no TX12 RX12 92 rfl rfl) (congrArg Prod.fst (sh_si (sh_si (sh_sl (sh_si (sh_si (sh_si (sh_si (sh_si (sh_si (F.1 125 (12, 92) rfl rfl))))))))))) rfl ?_
    refine x_aloadn (x := 125) rfl rfl ?_
    refine y_getI (v := 0) 12 14 rfl f_12_214 rfl (congrArg Prod.fst (sh_si (sh_si (sh_si (sh_sl (sh_si (sh_si (sh_si (sh_si (sh_si (sh_si (F.1 125 (12, 92) rfl rfl)))))))))))) (iv_si rfl (iv_si rfl (iv_si rfl (iv_sl (iv_si rfl (iv_si rfl (iv_si rfl iv_eq))))))) ?_
    refine x_ifeq (tgt := 113) rfl rfl (br_t (by decide) ?_)
    refine x_aloadn (x := 125) rfl rfl ?_
    refine x_getR (b := 132) 12 15 rfl f_12_36 rfl (congrArg Prod.fst (sh_si (sh_si (sh_si (sh_sl (sh_si (sh_si (sh_si (sh_si (sh_si (sh_si (F.1 125 (12, 92) rfl rfl)))))))))))) (rv_si (rv_si (rv_si (rv_sl (rv_si (rv_si (rv_si (rv_si (rv_si (rv_si (F.2.1 16015 132 rfl rfl))))))))))) ?_
    refine x_iloadn (x := a1) rfl rfl ?_
    refine x_aloadn (x := 125) rfl rfl ?_
    refine y_getI (v := 0) 12 18 rfl f_12_302 rfl (congrArg Prod.fst (sh_si (sh_si (sh_si (sh_sl (sh_si (sh_si (sh_si (sh_si (sh_si (sh_si (F.1 125 (12, 92) rfl rfl)))))))))))) (iv_si rfl iv_eq) ?_
    refine y_iast (N := 16) a1.toNatClampNeg rfl (sh_si (sh_si (sh_si (sh_sl (sh_si (sh_si (sh_si (sh_si (sh_si (sh_si (F.1 132 (100, 16) rfl rfl))))))))))) rfl (vpi (by omega)) rfl ?_
    refine x_iconst (v := 0) rfl ki_0 ?_
    refine x_istoren (ls' := [(2, .int 0), (0, .ref 125), (1, .int a1)]) rfl rfl rfl ?_
    refine x_iloadn (x := 0) rfl rfl ?_
    refine x_iconst (v := 2) rfl ki_2 ?_
    refine x_aloadn (x := 125) rfl rfl ?_
    refine y_getI (v := 0) 12 18 rfl f_12_302 rfl (congrArg Prod.fst (sh_si (sh_si (sh_si (sh_si (sh_sl (sh_si (sh_si (sh_si (sh_si (sh_si (sh_si (F.1 125 (12, 92) rfl rfl))))))))))))) (iv_si rfl (iv_si rfl iv_eq)) ?_
    refine y_imul (v := 0) rfl (by decide) ?_
    refine x_icge (tgt := 201) rfl rfl (br_t (by decide) ?_)
    refine x_aloadn (x := 125) rfl rfl ?_
    refine x_aloadn (x := 125) rfl rfl ?_
    refine y_getI (v := 0) 12 18 rfl f_12_302 rfl (congrArg Prod.fst (sh_si (sh_si (sh_si (sh_si (sh_sl (sh_si (sh_si (sh_si (sh_si (sh_si (sh_si (F.1 125 (12, 92) rfl rfl))))))))))))) (iv_si rfl (iv_si rfl iv_eq)) ?_
    refine x_inv (N := m_X12_told) (As := [.int 0]) (b := 125) (st := []) (d' := 99) (mc := 0) (ms := 0) (host := "") 12 rfl t_X12_told ⟨Or.inl q_12_197, i_X12_told.1, i_X12_told.2⟩ ⟨by decide, rfl⟩ (congrArg Prod.fst (sh_si (sh_si (sh_si (sh_si (sh_sl (sh_si (sh_si (sh_si (sh_si (sh_si (sh_si (F.1 125 (12, 92) rfl rfl))))))))))))) rfl (by decide) rfl rfl ⟨by decide, by decide⟩ (jC.of rfl k_X12_told rfl ?_)
    show jX m_X12_told 99 0 0 0 [(0, .ref 125), (1, .int 0)] [] _ 0 0 _
    refine x_aloadn (x := 125) rfl rfl ?_
    refine x_iloadn (x := 0) rfl rfl ?_
    refine x_ifge (tgt := 9) rfl rfl (br_t (by decide) ?_)
    refine x_iconst (v := 0) rfl ki_0 ?_
    refine x_putI 12 1 rfl f_12_183 rfl (jfin_no TX12 RX12 92 rfl rfl) (congrArg Prod.fst (sh_si (sh_si (sh_si (sh_si (sh_sl (sh_si (sh_si (sh_si (sh_si (sh_si (sh_si (F.1 125 (12, 92) rfl rfl))))))))))))) rfl ?_
    refine x_iloadn (x := 0) rfl rfl ?_
    refine x_iret rfl rfl ?_
    show jX m_X12_spell 100 0 0 209 [(2, .int 0), (0, .ref 125), (1, .int a1)] [.int 0] _ 0 0 _
    refine x_iret rfl rfl ?_
    exact jqe (show sp_spell a1 = 0 by unfold sp_spell; (repeat' split) <;> first | rfl | (exfalso; omega)) (hQ _ (jOl_si rfl (jOl_si rfl (jOl_si rfl (jOl_si rfl (jOl_si rfl (jOl_sl rfl (jOl_si rfl (jOl_si rfl (jOl_si rfl (jOl_si rfl (jOl_si rfl (jOl_si rfl O)))))))))))))
  ·
    refine x_aloadn (x := 125) rfl rfl ?_
    refine x_iconst (v := 0) rfl ki_0 ?_
    refine x_putI 12 8 rfl f_12_201 rfl (jfin_no TX12 RX12 92 rfl rfl) (congrArg Prod.fst (sh_si (F.1 125 (12, 92) rfl rfl))) rfl ?_
    refine x_aloadn (x := 125) rfl rfl ?_
    refine x_iconst (v := (-1)) rfl ki_m1 ?_
    refine x_inv (N := m_X12_told) (As := [.int (-1)]) (b := 125) (st := []) (d' := 99) (mc := 0) (ms := 0) (host := "") 12 rfl t_X12_told ⟨Or.inl q_12_197, i_X12_told.1, i_X12_told.2⟩ ⟨by decide, rfl⟩ (congrArg Prod.fst (sh_si (sh_si (F.1 125 (12, 92) rfl rfl)))) rfl (by decide) rfl rfl ⟨by decide, by decide⟩ (jC.of rfl k_X12_told rfl ?_)
    show jX m_X12_told 99 0 0 0 [(0, .ref 125), (1, .int (-1))] [] _ 0 0 _
    refine x_aloadn (x := 125) rfl rfl ?_
    refine x_iloadn (x := (-1)) rfl rfl ?_
    refine x_ifge (tgt := 9) rfl rfl (br_f (by decide) ?_)
    refine x_iloadn (x := (-1)) rfl rfl ?_
    refine x_goto (tgt := 10) rfl rfl ?_
    refine x_putI 12 1 rfl f_12_183 rfl (jfin_no TX12 RX12 92 rfl rfl) (congrArg Prod.fst (sh_si (sh_si (F.1 125 (12, 92) rfl rfl)))) rfl ?_
    refine x_iloadn (x := (-1)) rfl rfl ?_
    refine x_iret rfl rfl ?_
    show jX m_X12_spell 100 0 0 27 [(0, .ref 125), (1, .int a1)] [.int (-1)] _ 0 0 _
    refine x_iret rfl rfl ?_
    exact jqe (show sp_spell a1 = (-1) by unfold sp_spell; (repeat' split) <;> first | rfl | (exfalso; omega)) (hQ _ (jOl_si rfl (jOl_si rfl (jOl_si rfl O))))
set_option maxRecDepth 100000 in
set_option maxHeartbeats 40000000 in
theorem px_seal (a1 : Int32) {xs : Nat → Int32} {h : jH} {Q : Option Value → jH → Prop} (F : jFb 31 h) (O : jOl 7 xs h) (hQ : ∀ h', jFb 125 h' → jOl 7 xs h' → Q (some (.int (sp_seal a1))) h') : jC m_X11_seal 100 0 0 [.ref 31, .int a1] h Q := by
  have FM := jFb_up 125 rfl F
  refine jC.of rfl k_X11_seal rfl ?_
  show jX m_X11_seal 100 0 0 0 [(0, .ref 31), (1, .int a1)] [] _ 0 0 _
  refine x_iloadn (x := a1) rfl rfl ?_
  refine x_inst (N := m_X11_isYear) (As := [.int a1]) (st := []) (d' := 99) (mc := 0) (ms := 0) (host := "") rfl t_X11_isYear ⟨Or.inl q_11_433, s_X11_isYear⟩ rfl (by decide) rfl rfl ⟨by decide, by decide⟩ (c_X11_isYear (x := a1) ?_)
  show jX m_X11_seal 100 0 0 4 [(0, .ref 31), (1, .int a1)] [.int (jp (0 ≤ a1.toInt ∧ a1.toInt ≤ 399))] _ 0 0 _
  refine x_ifne (tgt := 13) rfl rfl (jpn ⟨fun c1 => ?_, fun c1 => ?_⟩)
  ·
    refine x_aloadn (x := 31) rfl rfl ?_
    refine x_iloadn (x := a1) rfl rfl ?_
    refine x_aloadn (x := 31) rfl rfl ?_
    refine x_getR (b := 32) 11 0 rfl f_11_10 rfl (congrArg Prod.fst (F.1 31 (11, 13) rfl rfl)) (F.2.1 3968 32 rfl rfl) ?_
    refine x_getR (b := 65) 1 16 rfl f_11_511 rfl (congrArg Prod.fst (F.1 32 (1, 20) rfl rfl)) (F.2.1 4112 65 rfl rfl) ?_
    refine x_iloadn (x := a1) rfl rfl ?_
    refine x_iconst (v := 4) rfl ki_4 ?_
    refine x_imul rfl ?_
    have c2 := jmulr (x := a1) (y := 4) (n := 4) (by decide) (by omega)
    refine x_inv (N := m_X11_sumYear) (As := [.int a1, .ref 65, .int (a1 * 4)]) (b := 31) (st := []) (d' := 99) (mc := 0) (ms := 0) (host := "") 11 rfl t_X11_sumYear ⟨Or.inl q_11_514, i_X11_sumYear.1, i_X11_sumYear.2⟩ ⟨by decide, rfl⟩ (congrArg Prod.fst (F.1 31 (11, 13) rfl rfl)) rfl (by decide) rfl rfl ⟨by decide, by decide⟩ (jC.of rfl k_X11_sumYear rfl ?_)
    show jX m_X11_sumYear 99 0 0 0 [(0, .ref 31), (1, .int a1), (2, .ref 65), (3, .int (a1 * 4))] [] _ 0 0 _
    refine x_iloadn (x := a1 * 4) rfl rfl ?_
    refine x_iflt (tgt := 12) rfl rfl (ti_lt (show (a1 * 4 : Int32).toInt = (a1 * 4).toInt from rfl) (show (0 : Int32).toInt = 0 by decide) ⟨fun c3 => ?_, fun c3 => ?_⟩)
    ·
      exfalso
      omega
    ·
      refine x_iloadn (x := a1 * 4) rfl rfl ?_
      refine x_iconst (v := 3) rfl ki_3 ?_
      refine x_iadd rfl ?_
      have c4 := jaddf (x := a1 * 4) (y := 3) (show (a1 * 4 : Int32).toInt = (a1 * 4).toInt from rfl) (show (3 : Int32).toInt = 3 by decide) (by omega)
      refine x_aloadn (x := 65) rfl rfl ?_
      refine y_alen (N := 1600) (v := 1600) rfl (F.1 65 (101, 1600) rfl rfl) (by decide) (by decide) ?_
      refine x_iclt (tgt := 13) rfl rfl (ti_lt (show ((a1 * 4) + 3 : Int32).toInt = ((a1 * 4) + 3).toInt from rfl) (show (1600 : Int32).toInt = 1600 by decide) ⟨fun c5 => ?_, fun c5 => ?_⟩)
      ·
        refine x_lconst (v := 0) rfl kl_0 ?_
        refine x_lstore (ls' := [(4, .long 0), (0, .ref 31), (1, .int a1), (2, .ref 65), (3, .int (a1 * 4))]) rfl rfl rfl ?_
        refine x_lconst (v := 0) rfl kl_0 ?_
        refine x_lstore (ls' := [(6, .long 0), (4, .long 0), (0, .ref 31), (1, .int a1), (2, .ref 65), (3, .int (a1 * 4))]) rfl rfl rfl ?_
        refine x_lconst (v := 0) rfl kl_0 ?_
        refine x_lstore (ls' := [(8, .long 0), (6, .long 0), (4, .long 0), (0, .ref 31), (1, .int a1), (2, .ref 65), (3, .int (a1 * 4))]) rfl rfl rfl ?_
        refine x_iconst (v := 0) rfl ki_0 ?_
        refine x_istore (ls' := [(10, .int 0), (8, .long 0), (6, .long 0), (4, .long 0), (0, .ref 31), (1, .int a1), (2, .ref 65), (3, .int (a1 * 4))]) rfl rfl rfl ?_
        refine x_iload (x := 0) rfl rfl ?_
        refine x_aloadn (x := 31) rfl rfl ?_
        refine x_getR (b := 32) 11 0 rfl f_11_10 rfl (congrArg Prod.fst (F.1 31 (11, 13) rfl rfl)) (F.2.1 3968 32 rfl rfl) ?_
        refine x_getR (b := 33) 1 0 rfl f_11_126 rfl (congrArg Prod.fst (F.1 32 (1, 20) rfl rfl)) (F.2.1 4096 33 rfl rfl) ?_
        refine y_getI (v := 0) 8 3 rfl f_11_142 rfl (congrArg Prod.fst (F.1 33 (8, 4) rfl rfl)) (F.2.2.1 4227 0 rfl rfl) ?_
        refine x_icge (tgt := 96) rfl rfl (br_t (by decide) ?_)
        refine x_aloadn (x := 65) rfl rfl ?_
        refine x_iloadn (x := a1 * 4) rfl rfl ?_
        refine x_lconst (v := 1) rfl kl_1 ?_
        refine y_last (N := 1600) (a1 * 4).toNatClampNeg rfl (F.1 65 (101, 1600) rfl rfl) rfl (vpi (by omega)) rfl ?_
        refine x_aloadn (x := 65) rfl rfl ?_
        refine x_iloadn (x := a1 * 4) rfl rfl ?_
        refine x_iconst (v := 1) rfl ki_1 ?_
        refine x_iadd rfl ?_
        have c6 := jaddf (x := a1 * 4) (y := 1) (show (a1 * 4 : Int32).toInt = (a1 * 4).toInt from rfl) (show (1 : Int32).toInt = 1 by decide) (by omega)
        refine x_lload (x := 0) rfl rfl ?_
        refine y_last (N := 1600) ((a1 * 4) + 1).toNatClampNeg rfl (sh_sl (F.1 65 (101, 1600) rfl rfl)) rfl (vpi (by omega)) rfl ?_
        refine x_aloadn (x := 65) rfl rfl ?_
        refine x_iloadn (x := a1 * 4) rfl rfl ?_
        refine x_iconst (v := 2) rfl ki_2 ?_
        refine x_iadd rfl ?_
        have c7 := jaddf (x := a1 * 4) (y := 2) (show (a1 * 4 : Int32).toInt = (a1 * 4).toInt from rfl) (show (2 : Int32).toInt = 2 by decide) (by omega)
        refine x_lload (x := 0) rfl rfl ?_
        refine y_last (N := 1600) ((a1 * 4) + 2).toNatClampNeg rfl (sh_sl (sh_sl (F.1 65 (101, 1600) rfl rfl))) rfl (vpi (by omega)) rfl ?_
        refine x_aloadn (x := 65) rfl rfl ?_
        refine x_iloadn (x := a1 * 4) rfl rfl ?_
        refine x_iconst (v := 3) rfl ki_3 ?_
        refine x_iadd rfl ?_
        have c8 := jaddf (x := a1 * 4) (y := 3) (show (a1 * 4 : Int32).toInt = (a1 * 4).toInt from rfl) (show (3 : Int32).toInt = 3 by decide) (by omega)
        refine x_lload (x := 0) rfl rfl ?_
        refine y_last (N := 1600) ((a1 * 4) + 3).toNatClampNeg rfl (sh_sl (sh_sl (sh_sl (F.1 65 (101, 1600) rfl rfl)))) rfl (vpi (by omega)) rfl ?_
        refine x_vret rfl rfl ?_
        show jX m_X11_seal 100 0 0 28 [(0, .ref 31), (1, .int a1)] [] _ 0 0 _
        refine x_aloadn (x := 31) rfl rfl ?_
        refine x_aloadn (x := 31) rfl rfl ?_
        refine x_getR (b := 32) 11 0 rfl f_11_10 rfl (congrArg Prod.fst (sh_sl (sh_sl (sh_sl (sh_sl (F.1 31 (11, 13) rfl rfl)))))) (rv_sl (rv_sl (rv_sl (rv_sl (F.2.1 3968 32 rfl rfl))))) ?_
        refine x_getR (b := 65) 1 16 rfl f_11_511 rfl (congrArg Prod.fst (sh_sl (sh_sl (sh_sl (sh_sl (F.1 32 (1, 20) rfl rfl)))))) (rv_sl (rv_sl (rv_sl (rv_sl (F.2.1 4112 65 rfl rfl))))) ?_
        refine x_iloadn (x := a1) rfl rfl ?_
        refine x_iconst (v := 4) rfl ki_4 ?_
        refine x_imul rfl ?_
        have c9 := jmulr (x := a1) (y := 4) (n := 4) (by decide) (by omega)
        refine x_iconst (v := 1) rfl ki_1 ?_
        refine x_iadd rfl ?_
        have c10 := jaddf (x := a1 * 4) (y := 1) (show (a1 * 4 : Int32).toInt = (a1 * 4).toInt from rfl) (show (1 : Int32).toInt = 1 by decide) (by omega)
        refine y_lald (v := 0) (N := 1600) ((a1 * 4) + 1).toNatClampNeg rfl (sh_sl (sh_sl (sh_sl (sh_sl (F.1 65 (101, 1600) rfl rfl))))) (vpi (by omega)) rfl (lv_sx (by omega) (by omega) (by omega) (lv_sx (by omega) (by omega) (by omega) lv_eq)) ?_
        refine y_l2i (v := 0) rfl (by decide) ?_
        refine x_inv (N := m_X11_accept) (As := [.int 0]) (b := 31) (st := []) (d' := 99) (mc := 0) (ms := 0) (host := "") 11 rfl t_X11_accept ⟨Or.inl q_11_165, i_X11_accept.1, i_X11_accept.2⟩ ⟨by decide, rfl⟩ (congrArg Prod.fst (sh_sl (sh_sl (sh_sl (sh_sl (F.1 31 (11, 13) rfl rfl)))))) rfl (by decide) rfl rfl ⟨by decide, by decide⟩ (jC.of rfl k_X11_accept rfl ?_)
        show jX m_X11_accept 99 0 0 0 [(0, .ref 31), (1, .int 0)] [] _ 0 0 _
        refine x_aloadn (x := 31) rfl rfl ?_
        refine x_iconst (v := 0) rfl ki_0 ?_
        refine x_putI 11 12 rfl f_11_94 rfl (jfin_no TX11 RX11 13 rfl rfl) (congrArg Prod.fst (sh_sl (sh_sl (sh_sl (sh_sl (F.1 31 (11, 13) rfl rfl)))))) rfl ?_
        refine x_aloadn (x := 31) rfl rfl ?_
        refine x_getR (b := 32) 11 0 rfl f_11_10 rfl (congrArg Prod.fst (sh_si (sh_sl (sh_sl (sh_sl (sh_sl (F.1 31 (11, 13) rfl rfl))))))) (rv_si (rv_sl (rv_sl (rv_sl (rv_sl (F.2.1 3968 32 rfl rfl)))))) ?_
        refine x_dup rfl rfl ?_
        refine y_getI (v := 1) 1 19 rfl f_11_528 rfl (congrArg Prod.fst (sh_si (sh_sl (sh_sl (sh_sl (sh_sl (F.1 32 (1, 20) rfl rfl))))))) (iv_si rfl (iv_sl (iv_sl (iv_sl (iv_sl (F.2.2.1 4115 1 rfl rfl)))))) ?_
        refine x_iconst (v := 1) rfl ki_1 ?_
        refine y_iadd (v := 2) rfl (by decide) ?_
        refine x_putI 1 19 rfl f_11_528 rfl (jfin_no TX1 RX1 20 rfl rfl) (congrArg Prod.fst (sh_si (sh_sl (sh_sl (sh_sl (sh_sl (F.1 32 (1, 20) rfl rfl))))))) rfl ?_
        refine x_iloadn (x := 0) rfl rfl ?_
        refine x_iret rfl rfl ?_
        show jX m_X11_seal 100 0 0 46 [(0, .ref 31), (1, .int a1)] [.int 0] _ 0 0 _
        refine x_iret rfl rfl ?_
        exact jqe (show sp_seal a1 = 0 by unfold sp_seal; (repeat' split) <;> first | rfl | (exfalso; omega)) (hQ _ (jFb_si rfl (jFb_si rfl (jFb_sl rfl (jFb_sl rfl (jFb_sl rfl (jFb_sl rfl FM)))))) (jOl_si rfl (jOl_si rfl (jOl_sl rfl (jOl_sl rfl (jOl_sl rfl (jOl_sl rfl O)))))))
      ·
        exfalso
        omega
  ·
    refine x_aloadn (x := 31) rfl rfl ?_
    refine x_iconst (v := (-1)) rfl ki_m1 ?_
    refine x_inv (N := m_X11_refuse) (As := [.int (-1)]) (b := 31) (st := []) (d' := 99) (mc := 0) (ms := 0) (host := "") 11 rfl t_X11_refuse ⟨Or.inl q_11_206, i_X11_refuse.1, i_X11_refuse.2⟩ ⟨by decide, rfl⟩ (congrArg Prod.fst (F.1 31 (11, 13) rfl rfl)) rfl (by decide) rfl rfl ⟨by decide, by decide⟩ (jC.of rfl k_X11_refuse rfl ?_)
    show jX m_X11_refuse 99 0 0 0 [(0, .ref 31), (1, .int (-1))] [] _ 0 0 _
    refine x_aloadn (x := 31) rfl rfl ?_
    refine x_iloadn (x := (-1)) rfl rfl ?_
    refine x_putI 11 12 rfl f_11_94 rfl (jfin_no TX11 RX11 13 rfl rfl) (congrArg Prod.fst (F.1 31 (11, 13) rfl rfl)) rfl ?_
    refine x_iloadn (x := (-1)) rfl rfl ?_
    refine x_iret rfl rfl ?_
    show jX m_X11_seal 100 0 0 12 [(0, .ref 31), (1, .int a1)] [.int (-1)] _ 0 0 _
    refine x_iret rfl rfl ?_
    exact jqe (show sp_seal a1 = (-1) by unfold sp_seal; (repeat' split) <;> first | rfl | (exfalso; omega)) (hQ _ (jFb_si rfl FM) (jOl_si rfl O))
set_option maxRecDepth 100000 in
set_option maxHeartbeats 40000000 in
theorem pm_seal (a1 : Int32) {xs : Nat → Int32} {h : jH} {Q : Option Value → jH → Prop} (F : jFb 125 h) (O : jOl 7 xs h) (hQ : ∀ h', jOl 7 xs h' → Q (some (.int (sp_seal a1))) h') : jC m_X12_seal 100 0 0 [.ref 125, .int a1] h Q := by
  refine jC.of rfl k_X12_seal rfl ?_
  show jX m_X12_seal 100 0 0 0 [(0, .ref 125), (1, .int a1)] [] _ 0 0 _
  refine x_aloadn (x := 125) rfl rfl ?_
  refine x_iconst (v := 0) rfl ki_0 ?_
  refine x_putI 12 0 rfl f_12_180 rfl (jfin_no TX12 RX12 92 rfl rfl) (congrArg Prod.fst (F.1 125 (12, 92) rfl rfl)) rfl ?_
  refine x_iloadn (x := a1) rfl rfl ?_
  refine x_inst (N := m_X12_isYear) (As := [.int a1]) (st := []) (d' := 99) (mc := 0) (ms := 0) (host := "") rfl t_X12_isYear ⟨Or.inl q_12_817, s_X12_isYear⟩ rfl (by decide) rfl rfl ⟨by decide, by decide⟩ (c_X12_isYear (x := a1) ?_)
  show jX m_X12_seal 100 0 0 9 [(0, .ref 125), (1, .int a1)] [.int (jp (0 ≤ a1.toInt ∧ a1.toInt ≤ 399))] _ 0 0 _
  refine x_ifne (tgt := 18) rfl rfl (jpn ⟨fun c1 => ?_, fun c1 => ?_⟩)
  ·
    refine x_aloadn (x := 125) rfl rfl ?_
    refine x_iloadn (x := a1) rfl rfl ?_
    refine x_inv (N := m_X12_addYear) (As := [.int a1]) (b := 125) (st := []) (d' := 99) (mc := 0) (ms := 0) (host := "") 12 rfl t_X12_addYear ⟨Or.inl q_12_872, i_X12_addYear.1, i_X12_addYear.2⟩ ⟨by decide, rfl⟩ (congrArg Prod.fst (sh_si (F.1 125 (12, 92) rfl rfl))) rfl (by decide) rfl rfl ⟨by decide, by decide⟩ (jC.of rfl k_X12_addYear rfl ?_)
    show jX m_X12_addYear 99 0 0 0 [(0, .ref 125), (1, .int a1)] [] _ 0 0 _
    refine x_aloadn (x := 125) rfl rfl ?_
    refine x_iconst (v := 0) rfl ki_0 ?_
    refine x_putI 12 89 rfl f_12_863 rfl (jfin_no TX12 RX12 92 rfl rfl) (congrArg Prod.fst (sh_si (F.1 125 (12, 92) rfl rfl))) rfl ?_
    refine x_aloadn (x := 125) rfl rfl ?_
    refine x_lconst (v := 0) rfl kl_0 ?_
    refine x_putL 12 90 rfl f_12_866 rfl (jfin_no TX12 RX12 92 rfl rfl) (congrArg Prod.fst (sh_si (sh_si (F.1 125 (12, 92) rfl rfl)))) rfl ?_
    refine x_aloadn (x := 125) rfl rfl ?_
    refine x_lconst (v := 0) rfl kl_0 ?_
    refine x_putL 12 91 rfl f_12_869 rfl (jfin_no TX12 RX12 92 rfl rfl) (congrArg Prod.fst (sh_sl (sh_si (sh_si (F.1 125 (12, 92) rfl rfl))))) rfl ?_
    refine x_iconst (v := 0) rfl ki_0 ?_
    refine x_istoren (ls' := [(2, .int 0), (0, .ref 125), (1, .int a1)]) rfl rfl rfl ?_
    refine x_iloadn (x := 0) rfl rfl ?_
    refine x_aloadn (x := 125) rfl rfl ?_
    refine x_getR (b := 126) 12 2 rfl f_12_8 rfl (congrArg Prod.fst (sh_sl (sh_sl (sh_si (sh_si (F.1 125 (12, 92) rfl rfl)))))) (rv_sl (rv_sl (rv_si (rv_si (F.2.1 16002 126 rfl rfl))))) ?_
    refine x_iconst (v := 0) rfl ki_0 ?_
    refine y_iald (v := 0) (N := 50660) 0 rfl (sh_sl (sh_sl (sh_si (sh_si (F.1 126 (100, 50660) rfl rfl))))) (jinb_of (by decide)) (by decide) (iv_sl (iv_sl (iv_si rfl (iv_si rfl (F.2.2.2.1 126 rfl rfl 0).1)))) ?_
    refine x_icge (tgt := 92) rfl rfl (br_t (by decide) ?_)
    refine x_vret rfl rfl ?_
    show jX m_X12_seal 100 0 0 23 [(0, .ref 125), (1, .int a1)] [] _ 0 0 _
    refine x_aloadn (x := 125) rfl rfl ?_
    refine x_getR (b := 129) 12 5 rfl f_12_22 rfl (congrArg Prod.fst (sh_sl (sh_sl (sh_si (sh_si (F.1 125 (12, 92) rfl rfl)))))) (rv_sl (rv_sl (rv_si (rv_si (F.2.1 16005 129 rfl rfl))))) ?_
    refine x_iconst (v := 4) rfl ki_4 ?_
    refine x_iloadn (x := a1) rfl rfl ?_
    refine x_imul rfl ?_
    have c2 := jmull (x := 4) (y := a1) (n := 4) (by decide) (by omega)
    refine x_lconst (v := 1) rfl kl_1 ?_
    refine y_last (N := 1600) (4 * a1).toNatClampNeg rfl (sh_sl (sh_sl (sh_si (sh_si (F.1 129 (101, 1600) rfl rfl))))) rfl (vpi (by omega)) rfl ?_
    refine x_aloadn (x := 125) rfl rfl ?_
    refine x_getR (b := 129) 12 5 rfl f_12_22 rfl (congrArg Prod.fst (sh_sl (sh_sl (sh_sl (sh_si (sh_si (F.1 125 (12, 92) rfl rfl))))))) (rv_sl (rv_sl (rv_sl (rv_si (rv_si (F.2.1 16005 129 rfl rfl)))))) ?_
    refine x_iconst (v := 4) rfl ki_4 ?_
    refine x_iloadn (x := a1) rfl rfl ?_
    refine x_imul rfl ?_
    have c3 := jmull (x := 4) (y := a1) (n := 4) (by decide) (by omega)
    refine x_iconst (v := 1) rfl ki_1 ?_
    refine x_iadd rfl ?_
    have c4 := jaddf (x := 4 * a1) (y := 1) (show (4 * a1 : Int32).toInt = (4 * a1).toInt from rfl) (show (1 : Int32).toInt = 1 by decide) (by omega)
    refine x_aloadn (x := 125) rfl rfl ?_
    refine y_getI (v := 0) 12 89 rfl f_12_863 rfl (congrArg Prod.fst (sh_sl (sh_sl (sh_sl (sh_si (sh_si (F.1 125 (12, 92) rfl rfl))))))) (iv_sl (iv_sl (iv_sl iv_eq))) ?_
    refine y_i2l (v := 0) rfl (by decide) ?_
    refine y_last (N := 1600) ((4 * a1) + 1).toNatClampNeg rfl (sh_sl (sh_sl (sh_sl (sh_si (sh_si (F.1 129 (101, 1600) rfl rfl)))))) rfl (vpi (by omega)) rfl ?_
    refine x_aloadn (x := 125) rfl rfl ?_
    refine x_getR (b := 129) 12 5 rfl f_12_22 rfl (congrArg Prod.fst (sh_sl (sh_sl (sh_sl (sh_sl (sh_si (sh_si (F.1 125 (12, 92) rfl rfl)))))))) (rv_sl (rv_sl (rv_sl (rv_sl (rv_si (rv_si (F.2.1 16005 129 rfl rfl))))))) ?_
    refine x_iconst (v := 4) rfl ki_4 ?_
    refine x_iloadn (x := a1) rfl rfl ?_
    refine x_imul rfl ?_
    have c5 := jmull (x := 4) (y := a1) (n := 4) (by decide) (by omega)
    refine x_iconst (v := 2) rfl ki_2 ?_
    refine x_iadd rfl ?_
    have c6 := jaddf (x := 4 * a1) (y := 2) (show (4 * a1 : Int32).toInt = (4 * a1).toInt from rfl) (show (2 : Int32).toInt = 2 by decide) (by omega)
    refine x_aloadn (x := 125) rfl rfl ?_
    refine y_getL (v := 0) 12 90 rfl f_12_866 rfl (congrArg Prod.fst (sh_sl (sh_sl (sh_sl (sh_sl (sh_si (sh_si (F.1 125 (12, 92) rfl rfl)))))))) (lv_sl rfl (lv_sl rfl (lv_sl rfl lv_eq))) ?_
    refine y_last (N := 1600) ((4 * a1) + 2).toNatClampNeg rfl (sh_sl (sh_sl (sh_sl (sh_sl (sh_si (sh_si (F.1 129 (101, 1600) rfl rfl))))))) rfl (vpi (by omega)) rfl ?_
    refine x_aloadn (x := 125) rfl rfl ?_
    refine x_getR (b := 129) 12 5 rfl f_12_22 rfl (congrArg Prod.fst (sh_sl (sh_sl (sh_sl (sh_sl (sh_sl (sh_si (sh_si (F.1 125 (12, 92) rfl rfl))))))))) (rv_sl (rv_sl (rv_sl (rv_sl (rv_sl (rv_si (rv_si (F.2.1 16005 129 rfl rfl)))))))) ?_
    refine x_iconst (v := 4) rfl ki_4 ?_
    refine x_iloadn (x := a1) rfl rfl ?_
    refine x_imul rfl ?_
    have c7 := jmull (x := 4) (y := a1) (n := 4) (by decide) (by omega)
    refine x_iconst (v := 3) rfl ki_3 ?_
    refine x_iadd rfl ?_
    have c8 := jaddf (x := 4 * a1) (y := 3) (show (4 * a1 : Int32).toInt = (4 * a1).toInt from rfl) (show (3 : Int32).toInt = 3 by decide) (by omega)
    refine x_aloadn (x := 125) rfl rfl ?_
    refine y_getL (v := 0) 12 91 rfl f_12_869 rfl (congrArg Prod.fst (sh_sl (sh_sl (sh_sl (sh_sl (sh_sl (sh_si (sh_si (F.1 125 (12, 92) rfl rfl))))))))) (lv_sl rfl (lv_sl rfl (lv_sl rfl lv_eq))) ?_
    refine y_last (N := 1600) ((4 * a1) + 3).toNatClampNeg rfl (sh_sl (sh_sl (sh_sl (sh_sl (sh_sl (sh_si (sh_si (F.1 129 (101, 1600) rfl rfl)))))))) rfl (vpi (by omega)) rfl ?_
    refine x_aloadn (x := 125) rfl rfl ?_
    refine x_aloadn (x := 125) rfl rfl ?_
    refine y_getI (v := 0) 12 89 rfl f_12_863 rfl (congrArg Prod.fst (sh_sl (sh_sl (sh_sl (sh_sl (sh_sl (sh_sl (sh_si (sh_si (F.1 125 (12, 92) rfl rfl)))))))))) (iv_sl (iv_sl (iv_sl (iv_sl (iv_sl (iv_sl iv_eq)))))) ?_
    refine x_inv (N := m_X12_told) (As := [.int 0]) (b := 125) (st := []) (d' := 99) (mc := 0) (ms := 0) (host := "") 12 rfl t_X12_told ⟨Or.inl q_12_197, i_X12_told.1, i_X12_told.2⟩ ⟨by decide, rfl⟩ (congrArg Prod.fst (sh_sl (sh_sl (sh_sl (sh_sl (sh_sl (sh_sl (sh_si (sh_si (F.1 125 (12, 92) rfl rfl)))))))))) rfl (by decide) rfl rfl ⟨by decide, by decide⟩ (jC.of rfl k_X12_told rfl ?_)
    show jX m_X12_told 99 0 0 0 [(0, .ref 125), (1, .int 0)] [] _ 0 0 _
    refine x_aloadn (x := 125) rfl rfl ?_
    refine x_iloadn (x := 0) rfl rfl ?_
    refine x_ifge (tgt := 9) rfl rfl (br_t (by decide) ?_)
    refine x_iconst (v := 0) rfl ki_0 ?_
    refine x_putI 12 1 rfl f_12_183 rfl (jfin_no TX12 RX12 92 rfl rfl) (congrArg Prod.fst (sh_sl (sh_sl (sh_sl (sh_sl (sh_sl (sh_sl (sh_si (sh_si (F.1 125 (12, 92) rfl rfl)))))))))) rfl ?_
    refine x_iloadn (x := 0) rfl rfl ?_
    refine x_iret rfl rfl ?_
    show jX m_X12_seal 100 0 0 83 [(0, .ref 125), (1, .int a1)] [.int 0] _ 0 0 _
    refine x_iret rfl rfl ?_
    exact jqe (show sp_seal a1 = 0 by unfold sp_seal; (repeat' split) <;> first | rfl | (exfalso; omega)) (hQ _ (jOl_si rfl (jOl_sl rfl (jOl_sl rfl (jOl_sl rfl (jOl_sl rfl (jOl_sl rfl (jOl_sl rfl (jOl_si rfl (jOl_si rfl O))))))))))
  ·
    refine x_aloadn (x := 125) rfl rfl ?_
    refine x_iconst (v := (-1)) rfl ki_m1 ?_
    refine x_inv (N := m_X12_told) (As := [.int (-1)]) (b := 125) (st := []) (d' := 99) (mc := 0) (ms := 0) (host := "") 12 rfl t_X12_told ⟨Or.inl q_12_197, i_X12_told.1, i_X12_told.2⟩ ⟨by decide, rfl⟩ (congrArg Prod.fst (sh_si (F.1 125 (12, 92) rfl rfl))) rfl (by decide) rfl rfl ⟨by decide, by decide⟩ (jC.of rfl k_X12_told rfl ?_)
    show jX m_X12_told 99 0 0 0 [(0, .ref 125), (1, .int (-1))] [] _ 0 0 _
    refine x_aloadn (x := 125) rfl rfl ?_
    refine x_iloadn (x := (-1)) rfl rfl ?_
    refine x_ifge (tgt := 9) rfl rfl (br_f (by decide) ?_)
    refine x_iloadn (x := (-1)) rfl rfl ?_
    refine x_goto (tgt := 10) rfl rfl ?_
    refine x_putI 12 1 rfl f_12_183 rfl (jfin_no TX12 RX12 92 rfl rfl) (congrArg Prod.fst (sh_si (F.1 125 (12, 92) rfl rfl))) rfl ?_
    refine x_iloadn (x := (-1)) rfl rfl ?_
    refine x_iret rfl rfl ?_
    show jX m_X12_seal 100 0 0 17 [(0, .ref 125), (1, .int a1)] [.int (-1)] _ 0 0 _
    refine x_iret rfl rfl ?_
    exact jqe (show sp_seal a1 = (-1) by unfold sp_seal; (repeat' split) <;> first | rfl | (exfalso; omega)) (hQ _ (jOl_si rfl (jOl_si rfl O)))
