/-! turn -/
def jTv (xs : Nat → Int32) (m : Nat) (h : jH) : Prop := jFe jXIt jXAt 31 h ∧ jFb 125 h ∧ jOl 7 xs h ∧ jiv h 107 15 = nI m ∧ (∀ j, j < m → jiv h 115 j = -1) ∧ (∀ j, j < m → jiv h 116 j = 0)
def jTm (xs : Nat → Int32) (m : Nat) (h : jH) : Prop := jFe jXIm jXAm 125 h ∧ jOl 7 xs h ∧ (∀ j, j < m → jiv h 168 j = -1) ∧ (∀ j, j < m → jiv h 169 j = 0)
set_option maxRecDepth 100000 in
set_option maxHeartbeats 40000000 in
theorem ct_run {a1 a2 a3 : Int32} {xs : Nat → Int32} {Q : Option Value → jH → Prop} (ha : 0 ≤ a2.toInt ∧ a2.toInt ≤ 399) (kk : ∀ (m : Nat) h, (m : Int) = a2.toInt + 1 → jTv xs m h → Q none h) : ∀ r m : Nat, (r : Int) + m = a2.toInt + 1 → ∀ h z, jTv xs m h → jX m_X4_runTurns 99 0 0 53 [(4, .int z), (0, .ref 107), (1, .int a1), (2, .int a2), (3, .int a3)] [] h 0 0 Q := by
  intro r
  induction r with
  | zero =>
    intro m hr h z T
    have hm : (nI m).toInt = (m : Int) := jnIt (by omega)
    obtain ⟨F, FM, O, Y, SB, PI⟩ := T
    refine x_aloadn (x := 107) rfl rfl ?_
    refine y_getI (v := nI m) 4 15 rfl f_4_50 rfl (congrArg Prod.fst (F.1 107 (4, 18) rfl rfl)) Y ?_
    refine x_iloadn (x := a2) rfl rfl ?_
    refine x_icgt (tgt := 170) rfl rfl (ti_gt (show (nI m : Int32).toInt = (nI m).toInt from rfl) (show (a2 : Int32).toInt = a2.toInt from rfl) ⟨fun c1 => ?_, fun c1 => ?_⟩)
    ·
      refine x_vret rfl rfl ?_
      exact kk m _ (by omega) ⟨F, FM, O, Y, SB, PI⟩
    ·
      refine x_aloadn (x := 107) rfl rfl ?_
      refine y_getI (v := nI m) 4 15 rfl f_4_50 rfl (congrArg Prod.fst (F.1 107 (4, 18) rfl rfl)) Y ?_
      refine x_sipush (v := 399) rfl ks_399 ?_
      refine x_icgt (tgt := 170) rfl rfl (ti_gt (show (nI m : Int32).toInt = (nI m).toInt from rfl) (show (399 : Int32).toInt = 399 by decide) ⟨fun c2 => ?_, fun c2 => ?_⟩)
      ·
        refine x_vret rfl rfl ?_
        exact kk m _ (by omega) ⟨F, FM, O, Y, SB, PI⟩
      ·
        exfalso
        omega
  | succ r ih =>
    intro m hr h z T
    have hm : (nI m).toInt = (m : Int) := jnIt (by omega)
    obtain ⟨F, FM, O, Y, SB, PI⟩ := T
    refine x_aloadn (x := 107) rfl rfl ?_
    refine y_getI (v := nI m) 4 15 rfl f_4_50 rfl (congrArg Prod.fst (F.1 107 (4, 18) rfl rfl)) Y ?_
    refine x_iloadn (x := a2) rfl rfl ?_
    refine x_icgt (tgt := 170) rfl rfl (ti_gt (show (nI m : Int32).toInt = (nI m).toInt from rfl) (show (a2 : Int32).toInt = a2.toInt from rfl) ⟨fun c1 => ?_, fun c1 => ?_⟩)
    ·
      refine x_vret rfl rfl ?_
      exact kk m _ (by omega) ⟨F, FM, O, Y, SB, PI⟩
    ·
      refine x_aloadn (x := 107) rfl rfl ?_
      refine y_getI (v := nI m) 4 15 rfl f_4_50 rfl (congrArg Prod.fst (F.1 107 (4, 18) rfl rfl)) Y ?_
      refine x_sipush (v := 399) rfl ks_399 ?_
      refine x_icgt (tgt := 170) rfl rfl (ti_gt (show (nI m : Int32).toInt = (nI m).toInt from rfl) (show (399 : Int32).toInt = 399 by decide) ⟨fun c2 => ?_, fun c2 => ?_⟩)
      ·
        refine x_vret rfl rfl ?_
        exact kk m _ (by omega) ⟨F, FM, O, Y, SB, PI⟩
      ·
        refine x_aloadn (x := 107) rfl rfl ?_
        refine x_getR (b := 115) 4 11 rfl f_4_38 rfl (congrArg Prod.fst (F.1 107 (4, 18) rfl rfl)) (F.2.1 13707 115 rfl rfl) ?_
        refine x_aloadn (x := 107) rfl rfl ?_
        refine y_getI (v := nI m) 4 15 rfl f_4_50 rfl (congrArg Prod.fst (F.1 107 (4, 18) rfl rfl)) Y ?_
        refine x_iconst (v := (-1)) rfl ki_m1 ?_
        refine y_iast (N := 400) (nI m).toNatClampNeg rfl (F.1 115 (100, 400) rfl rfl) rfl (vpi (by omega)) rfl ?_
        refine x_aloadn (x := 107) rfl rfl ?_
        refine x_getR (b := 116) 4 12 rfl f_4_41 rfl (congrArg Prod.fst (sh_si (F.1 107 (4, 18) rfl rfl))) (rv_si (F.2.1 13708 116 rfl rfl)) ?_
        refine x_aloadn (x := 107) rfl rfl ?_
        refine y_getI (v := nI m) 4 15 rfl f_4_50 rfl (congrArg Prod.fst (sh_si (F.1 107 (4, 18) rfl rfl))) (iv_si rfl Y) ?_
        refine x_iconst (v := 0) rfl ki_0 ?_
        refine y_iast (N := 400) (nI m).toNatClampNeg rfl (sh_si (F.1 116 (100, 400) rfl rfl)) rfl (vpi (by omega)) rfl ?_
        refine x_aloadn (x := 107) rfl rfl ?_
        refine x_getR (b := 98) 4 2 rfl f_4_67 rfl (congrArg Prod.fst (sh_si (sh_si (F.1 107 (4, 18) rfl rfl)))) (rv_si (rv_si (F.2.1 13698 98 rfl rfl))) ?_
        refine x_aloadn (x := 107) rfl rfl ?_
        refine y_getI (v := nI m) 4 15 rfl f_4_50 rfl (congrArg Prod.fst (sh_si (sh_si (F.1 107 (4, 18) rfl rfl)))) (iv_si rfl (iv_si rfl Y)) ?_
        refine x_sipush (v := 366) rfl ks_366 ?_
        refine x_imul rfl ?_
        have c3 := jmulr (x := nI m) (y := 366) (n := 366) (by decide) (by omega)
        refine x_iloadn (x := a3) rfl rfl ?_
        refine x_inv (N := m_X0_readLaws) (As := [.int ((nI m) * 366), .int a3]) (b := 98) (st := []) (d' := 98) (mc := 0) (ms := 0) (host := "") 0 rfl t_X0_readLaws ⟨Or.inl q_4_147, i_X0_readLaws.1, i_X0_readLaws.2⟩ ⟨by decide, rfl⟩ (congrArg Prod.fst (sh_si (sh_si (F.1 98 (0, 16) rfl rfl)))) rfl (by decide) rfl rfl ⟨by decide, by decide⟩ (jC.of rfl k_X0_readLaws rfl ?_)
        show jX m_X0_readLaws 98 0 0 0 [(0, .ref 98), (1, .int ((nI m) * 366)), (2, .int a3)] [] _ 0 0 _
        refine x_aloadn (x := 98) rfl rfl ?_
        refine x_iloadn (x := (nI m) * 366) rfl rfl ?_
        refine x_putI 0 10 rfl f_0_37 rfl (jfin_no TX0 RX0 16 rfl rfl) (congrArg Prod.fst (sh_si (sh_si (F.1 98 (0, 16) rfl rfl)))) rfl ?_
        refine x_aloadn (x := 98) rfl rfl ?_
        refine x_iloadn (x := a3) rfl rfl ?_
        refine x_putI 0 11 rfl f_0_41 rfl (jfin_no TX0 RX0 16 rfl rfl) (congrArg Prod.fst (sh_si (sh_si (sh_si (F.1 98 (0, 16) rfl rfl))))) rfl ?_
        refine x_aloadn (x := 98) rfl rfl ?_
        refine x_getR (b := 101) 0 4 rfl f_0_18 rfl (congrArg Prod.fst (sh_si (sh_si (sh_si (sh_si (F.1 98 (0, 16) rfl rfl)))))) (rv_si (rv_si (rv_si (rv_si (F.2.1 12548 101 rfl rfl))))) ?_
        refine x_aloadn (x := 98) rfl rfl ?_
        refine y_getI (v := (nI m) * 366) 0 10 rfl f_0_37 rfl (congrArg Prod.fst (sh_si (sh_si (sh_si (sh_si (F.1 98 (0, 16) rfl rfl)))))) (iv_si rfl iv_eq) ?_
        refine x_aloadn (x := 98) rfl rfl ?_
        refine y_getI (v := a3) 0 11 rfl f_0_41 rfl (congrArg Prod.fst (sh_si (sh_si (sh_si (sh_si (F.1 98 (0, 16) rfl rfl)))))) iv_eq ?_
        refine x_aloadn (x := 98) rfl rfl ?_
        refine x_getR (b := 32) 0 0 rfl f_0_57 rfl (congrArg Prod.fst (sh_si (sh_si (sh_si (sh_si (F.1 98 (0, 16) rfl rfl)))))) (rv_si (rv_si (rv_si (rv_si (F.2.1 12544 32 rfl rfl))))) ?_
        refine y_getI (v := 1) 1 19 rfl f_0_81 rfl (congrArg Prod.fst (sh_si (sh_si (sh_si (sh_si (F.1 32 (1, 20) rfl rfl)))))) (iv_si rfl (iv_si rfl (iv_si rfl (iv_si rfl (F.2.2.1 4115 1 rfl rfl rfl))))) ?_
        refine x_inst (N := m_X11_isFresh) (As := [.ref 101, .int ((nI m) * 366), .int a3, .int 1]) (st := []) (d' := 97) (mc := 0) (ms := 0) (host := "ParishChest") rfl t_X11_isFresh ⟨Or.inr q_0_84, s_X11_isFresh⟩ rfl (by decide) rfl rfl ⟨by decide, by decide⟩ (jC.of rfl k_X11_isFresh rfl ?_)
        show jX m_X11_isFresh 97 0 0 0 [(0, .ref 101), (1, .int ((nI m) * 366)), (2, .int a3), (3, .int 1)] [] _ 0 0 _
        refine x_aloadn (x := 101) rfl rfl ?_
        refine y_alen (N := 3) (v := 3) rfl (sh_si (sh_si (sh_si (sh_si (F.1 101 (100, 3) rfl rfl))))) (by decide) (by decide) ?_
        refine x_iconst (v := 3) rfl ki_3 ?_
        refine x_icge (tgt := 8) rfl rfl (br_t (by decide) ?_)
        refine x_aloadn (x := 101) rfl rfl ?_
        refine x_iconst (v := 0) rfl ki_0 ?_
        refine y_iald (v := (jiv h 101 0)) (N := 3) 0 rfl (sh_si (sh_si (sh_si (sh_si (F.1 101 (100, 3) rfl rfl))))) (jinb_of (by decide)) (by decide) (iv_si rfl (iv_si rfl (iv_si rfl (iv_si rfl rfl)))) ?_
        refine x_iloadn (x := (nI m) * 366) rfl rfl ?_
        refine x_icne (tgt := 33) rfl rfl (ti_ne (show ((jiv h 101 0) : Int32).toInt = (jiv h 101 0).toInt from rfl) (show ((nI m) * 366 : Int32).toInt = ((nI m) * 366).toInt from rfl) ⟨fun c4 => ?_, fun c4 => ?_⟩)
        ·
          refine x_iconst (v := 0) rfl ki_0 ?_
          refine x_istore (ls' := [(4, .int 0), (0, .ref 101), (1, .int ((nI m) * 366)), (2, .int a3), (3, .int 1)]) rfl rfl rfl ?_
          refine x_aloadn (x := 101) rfl rfl ?_
          refine x_iconst (v := 0) rfl ki_0 ?_
          refine x_iloadn (x := (nI m) * 366) rfl rfl ?_
          refine y_iast (N := 3) 0 rfl (sh_si (sh_si (sh_si (sh_si (F.1 101 (100, 3) rfl rfl))))) rfl (jinb_of (by decide)) (by decide) ?_
          refine x_aloadn (x := 101) rfl rfl ?_
          refine x_iconst (v := 1) rfl ki_1 ?_
          refine x_iloadn (x := a3) rfl rfl ?_
          refine y_iast (N := 3) 1 rfl (sh_si (sh_si (sh_si (sh_si (sh_si (F.1 101 (100, 3) rfl rfl)))))) rfl (jinb_of (by decide)) (by decide) ?_
          refine x_aloadn (x := 101) rfl rfl ?_
          refine x_iconst (v := 2) rfl ki_2 ?_
          refine x_iloadn (x := 1) rfl rfl ?_
          refine y_iast (N := 3) 2 rfl (sh_si (sh_si (sh_si (sh_si (sh_si (sh_si (F.1 101 (100, 3) rfl rfl))))))) rfl (jinb_of (by decide)) (by decide) ?_
          refine x_iload (x := 0) rfl rfl ?_
          refine x_zret rfl rfl (by first | decide | exact jp_01 _) ?_
          show jX m_X0_readLaws 98 0 0 32 [(0, .ref 98), (1, .int ((nI m) * 366)), (2, .int a3)] [.int 0] _ 0 0 _
          refine x_ifeq (tgt := 36) rfl rfl (br_t (by decide) ?_)
          refine x_bipush (v := 30) rfl kb_30 ?_
          refine x_aloadn (x := 98) rfl rfl ?_
          refine x_getR (b := 32) 0 0 rfl f_0_57 rfl (congrArg Prod.fst (sh_si (sh_si (sh_si (sh_si (sh_si (sh_si (sh_si (F.1 98 (0, 16) rfl rfl))))))))) (rv_si (rv_si (rv_si (rv_si (rv_si (rv_si (rv_si (F.2.1 12544 32 rfl rfl)))))))) ?_
          refine y_getI (v := 0) 1 18 rfl f_0_72 rfl (congrArg Prod.fst (sh_si (sh_si (sh_si (sh_si (sh_si (sh_si (sh_si (F.1 32 (1, 20) rfl rfl))))))))) (iv_si rfl (iv_si rfl (iv_si rfl (iv_si rfl (iv_si rfl (iv_si rfl (iv_si rfl (F.2.2.1 4114 0 rfl rfl rfl)))))))) ?_
          refine x_mmin rfl q_0_88 (by decide) rfl (br_t (by decide) ?_)
          refine x_istoren (ls' := [(3, .int 0), (0, .ref 98), (1, .int ((nI m) * 366)), (2, .int a3)]) rfl rfl rfl ?_
          refine x_iconst (v := 0) rfl ki_0 ?_
          refine x_istore (ls' := [(4, .int 0), (3, .int 0), (0, .ref 98), (1, .int ((nI m) * 366)), (2, .int a3)]) rfl rfl rfl ?_
          refine x_iload (x := 0) rfl rfl ?_
          refine x_iloadn (x := 0) rfl rfl ?_
          refine x_icge (tgt := 80) rfl rfl (br_t (by decide) ?_)
          refine x_iloadn (x := 0) rfl rfl ?_
          refine x_iconst (v := 1) rfl ki_1 ?_
          refine y_isub (v := (-1)) rfl (by decide) ?_
          refine x_istore (ls' := [(4, .int (-1)), (3, .int 0), (0, .ref 98), (1, .int ((nI m) * 366)), (2, .int a3)]) rfl rfl rfl ?_
          refine x_iload (x := (-1)) rfl rfl ?_
          refine x_iflt (tgt := 167) rfl rfl (br_t (by decide) ?_)
          refine x_vret rfl rfl ?_
          show jX m_X4_runTurns 99 0 0 107 [(4, .int z), (0, .ref 107), (1, .int a1), (2, .int a2), (3, .int a3)] [] _ 0 0 _
          refine x_aloadn (x := 107) rfl rfl ?_
          refine x_getR (b := 98) 4 2 rfl f_4_67 rfl (congrArg Prod.fst (sh_si (sh_si (sh_si (sh_si (sh_si (sh_si (sh_si (F.1 107 (4, 18) rfl rfl))))))))) (rv_si (rv_si (rv_si (rv_si (rv_si (rv_si (rv_si (F.2.1 13698 98 rfl rfl)))))))) ?_
          refine x_iloadn (x := a1) rfl rfl ?_
          refine x_inv (N := m_X0_lastTurn) (As := [.int a1]) (b := 98) (st := []) (d' := 98) (mc := 0) (ms := 0) (host := "") 0 rfl t_X0_lastTurn ⟨Or.inl q_4_150, i_X0_lastTurn.1, i_X0_lastTurn.2⟩ ⟨by decide, rfl⟩ (congrArg Prod.fst (sh_si (sh_si (sh_si (sh_si (sh_si (sh_si (sh_si (F.1 98 (0, 16) rfl rfl))))))))) rfl (by decide) rfl rfl ⟨by decide, by decide⟩ (jC.of rfl k_X0_lastTurn rfl ?_)
          show jX m_X0_lastTurn 98 0 0 0 [(0, .ref 98), (1, .int a1)] [] _ 0 0 _
          refine x_iconst (v := 1) rfl ki_1 ?_
          refine x_istoren (ls' := [(2, .int 1), (0, .ref 98), (1, .int a1)]) rfl rfl rfl ?_
          refine x_iloadn (x := 1) rfl rfl ?_
          refine x_iflt (tgt := 106) rfl rfl (br_f (by decide) ?_)
          refine x_aloadn (x := 98) rfl rfl ?_
          refine x_getR (b := 32) 0 0 rfl f_0_57 rfl (congrArg Prod.fst (sh_si (sh_si (sh_si (sh_si (sh_si (sh_si (sh_si (F.1 98 (0, 16) rfl rfl))))))))) (rv_si (rv_si (rv_si (rv_si (rv_si (rv_si (rv_si (F.2.1 12544 32 rfl rfl)))))))) ?_
          refine y_getI (v := 0) 1 18 rfl f_0_72 rfl (congrArg Prod.fst (sh_si (sh_si (sh_si (sh_si (sh_si (sh_si (sh_si (F.1 32 (1, 20) rfl rfl))))))))) (iv_si rfl (iv_si rfl (iv_si rfl (iv_si rfl (iv_si rfl (iv_si rfl (iv_si rfl (F.2.2.1 4114 0 rfl rfl rfl)))))))) ?_
          refine x_iconst (v := 1) rfl ki_1 ?_
          refine y_isub (v := (-1)) rfl (by decide) ?_
          refine x_istoren (ls' := [(3, .int (-1)), (2, .int 1), (0, .ref 98), (1, .int a1)]) rfl rfl rfl ?_
          refine x_iloadn (x := (-1)) rfl rfl ?_
          refine x_iflt (tgt := 100) rfl rfl (br_t (by decide) ?_)
          refine x_iinc (x := 1) (v := 0) (ls' := [(2, .int 0), (3, .int (-1)), (0, .ref 98), (1, .int a1)]) rfl rfl (by decide) rfl rfl ?_
          refine x_goto (tgt := 2) rfl rfl ?_
          refine x_iloadn (x := 0) rfl rfl ?_
          refine x_iflt (tgt := 106) rfl rfl (br_f (by decide) ?_)
          refine x_aloadn (x := 98) rfl rfl ?_
          refine x_getR (b := 32) 0 0 rfl f_0_57 rfl (congrArg Prod.fst (sh_si (sh_si (sh_si (sh_si (sh_si (sh_si (sh_si (F.1 98 (0, 16) rfl rfl))))))))) (rv_si (rv_si (rv_si (rv_si (rv_si (rv_si (rv_si (F.2.1 12544 32 rfl rfl)))))))) ?_
          refine y_getI (v := 0) 1 18 rfl f_0_72 rfl (congrArg Prod.fst (sh_si (sh_si (sh_si (sh_si (sh_si (sh_si (sh_si (F.1 32 (1, 20) rfl rfl))))))))) (iv_si rfl (iv_si rfl (iv_si rfl (iv_si rfl (iv_si rfl (iv_si rfl (iv_si rfl (F.2.2.1 4114 0 rfl rfl rfl)))))))) ?_
          refine x_iconst (v := 1) rfl ki_1 ?_
          refine y_isub (v := (-1)) rfl (by decide) ?_
          refine x_istoren (ls' := [(3, .int (-1)), (2, .int 0), (0, .ref 98), (1, .int a1)]) rfl rfl rfl ?_
          refine x_iloadn (x := (-1)) rfl rfl ?_
          refine x_iflt (tgt := 100) rfl rfl (br_t (by decide) ?_)
          refine x_iinc (x := 0) (v := (-1)) (ls' := [(2, .int (-1)), (3, .int (-1)), (0, .ref 98), (1, .int a1)]) rfl rfl (by decide) rfl rfl ?_
          refine x_goto (tgt := 2) rfl rfl ?_
          refine x_iloadn (x := (-1)) rfl rfl ?_
          refine x_iflt (tgt := 106) rfl rfl (br_t (by decide) ?_)
          refine x_iconst (v := (-1)) rfl ki_m1 ?_
          refine x_iret rfl rfl ?_
          show jX m_X4_runTurns 99 0 0 115 [(4, .int z), (0, .ref 107), (1, .int a1), (2, .int a2), (3, .int a3)] [.int (-1)] _ 0 0 _
          refine x_istore (ls' := [(4, .int (-1)), (0, .ref 107), (1, .int a1), (2, .int a2), (3, .int a3)]) rfl rfl rfl ?_
          refine x_iload (x := (-1)) rfl rfl ?_
          refine x_iconst (v := (-1)) rfl ki_m1 ?_
          refine x_iceq (tgt := 157) rfl rfl (br_t (by decide) ?_)
          refine x_aloadn (x := 107) rfl rfl ?_
          refine x_dup rfl rfl ?_
          refine y_getI (v := nI m) 4 15 rfl f_4_50 rfl (congrArg Prod.fst (sh_si (sh_si (sh_si (sh_si (sh_si (sh_si (sh_si (F.1 107 (4, 18) rfl rfl))))))))) (iv_si rfl (iv_si rfl (iv_si rfl (iv_si rfl (iv_si rfl (iv_si rfl (iv_si rfl Y))))))) ?_
          refine x_iconst (v := 1) rfl ki_1 ?_
          refine x_iadd rfl ?_
          have c5 := jaddf (x := nI m) (y := 1) (show (nI m : Int32).toInt = (nI m).toInt from rfl) (show (1 : Int32).toInt = 1 by decide) (by omega)
          refine x_putI 4 15 rfl f_4_50 rfl (jfin_no TX4 RX4 18 rfl rfl) (congrArg Prod.fst (sh_si (sh_si (sh_si (sh_si (sh_si (sh_si (sh_si (F.1 107 (4, 18) rfl rfl))))))))) rfl ?_
          refine x_goto (tgt := 53) rfl rfl ?_
          exact ih (m + 1) (by omega) _ _ ⟨(jFe_sf rfl rfl rfl (jFe_sa rfl rfl (jFe_sa rfl rfl (jFe_sa rfl rfl (jFe_sf rfl rfl rfl (jFe_sf rfl rfl rfl (jFe_sa rfl rfl (jFe_sa rfl rfl F)))))))), (jFb_si rfl (jFb_si rfl (jFb_si rfl (jFb_si rfl (jFb_si rfl (jFb_si rfl (jFb_si rfl (jFb_si rfl FM)))))))), (jOl_si rfl (jOl_si rfl (jOl_si rfl (jOl_si rfl (jOl_si rfl (jOl_si rfl (jOl_si rfl (jOl_si rfl O)))))))), iv_eq.trans (jnI1b m), (fun j hj => (iv_si rfl (iv_si rfl (iv_si rfl (iv_si rfl (iv_si rfl (iv_si rfl (iv_si rfl (jarr1 hm (fun j hj => SB j hj) j hj))))))))), (fun j hj => (iv_si rfl (iv_si rfl (iv_si rfl (iv_si rfl (iv_si rfl (iv_si rfl (jarr1 hm (fun j hj => (iv_si rfl (PI j hj))) j hj))))))))⟩
        ·
          refine x_aloadn (x := 101) rfl rfl ?_
          refine x_iconst (v := 1) rfl ki_1 ?_
          refine y_iald (v := (jiv h 101 1)) (N := 3) 1 rfl (sh_si (sh_si (sh_si (sh_si (F.1 101 (100, 3) rfl rfl))))) (jinb_of (by decide)) (by decide) (iv_si rfl (iv_si rfl (iv_si rfl (iv_si rfl rfl)))) ?_
          refine x_iloadn (x := a3) rfl rfl ?_
          refine x_icne (tgt := 33) rfl rfl (ti_ne (show ((jiv h 101 1) : Int32).toInt = (jiv h 101 1).toInt from rfl) (show (a3 : Int32).toInt = a3.toInt from rfl) ⟨fun c6 => ?_, fun c6 => ?_⟩)
          ·
            refine x_iconst (v := 0) rfl ki_0 ?_
            refine x_istore (ls' := [(4, .int 0), (0, .ref 101), (1, .int ((nI m) * 366)), (2, .int a3), (3, .int 1)]) rfl rfl rfl ?_
            refine x_aloadn (x := 101) rfl rfl ?_
            refine x_iconst (v := 0) rfl ki_0 ?_
            refine x_iloadn (x := (nI m) * 366) rfl rfl ?_
            refine y_iast (N := 3) 0 rfl (sh_si (sh_si (sh_si (sh_si (F.1 101 (100, 3) rfl rfl))))) rfl (jinb_of (by decide)) (by decide) ?_
            refine x_aloadn (x := 101) rfl rfl ?_
            refine x_iconst (v := 1) rfl ki_1 ?_
            refine x_iloadn (x := a3) rfl rfl ?_
            refine y_iast (N := 3) 1 rfl (sh_si (sh_si (sh_si (sh_si (sh_si (F.1 101 (100, 3) rfl rfl)))))) rfl (jinb_of (by decide)) (by decide) ?_
            refine x_aloadn (x := 101) rfl rfl ?_
            refine x_iconst (v := 2) rfl ki_2 ?_
            refine x_iloadn (x := 1) rfl rfl ?_
            refine y_iast (N := 3) 2 rfl (sh_si (sh_si (sh_si (sh_si (sh_si (sh_si (F.1 101 (100, 3) rfl rfl))))))) rfl (jinb_of (by decide)) (by decide) ?_
            refine x_iload (x := 0) rfl rfl ?_
            refine x_zret rfl rfl (by first | decide | exact jp_01 _) ?_
            show jX m_X0_readLaws 98 0 0 32 [(0, .ref 98), (1, .int ((nI m) * 366)), (2, .int a3)] [.int 0] _ 0 0 _
            refine x_ifeq (tgt := 36) rfl rfl (br_t (by decide) ?_)
            refine x_bipush (v := 30) rfl kb_30 ?_
            refine x_aloadn (x := 98) rfl rfl ?_
            refine x_getR (b := 32) 0 0 rfl f_0_57 rfl (congrArg Prod.fst (sh_si (sh_si (sh_si (sh_si (sh_si (sh_si (sh_si (F.1 98 (0, 16) rfl rfl))))))))) (rv_si (rv_si (rv_si (rv_si (rv_si (rv_si (rv_si (F.2.1 12544 32 rfl rfl)))))))) ?_
            refine y_getI (v := 0) 1 18 rfl f_0_72 rfl (congrArg Prod.fst (sh_si (sh_si (sh_si (sh_si (sh_si (sh_si (sh_si (F.1 32 (1, 20) rfl rfl))))))))) (iv_si rfl (iv_si rfl (iv_si rfl (iv_si rfl (iv_si rfl (iv_si rfl (iv_si rfl (F.2.2.1 4114 0 rfl rfl rfl)))))))) ?_
            refine x_mmin rfl q_0_88 (by decide) rfl (br_t (by decide) ?_)
            refine x_istoren (ls' := [(3, .int 0), (0, .ref 98), (1, .int ((nI m) * 366)), (2, .int a3)]) rfl rfl rfl ?_
            refine x_iconst (v := 0) rfl ki_0 ?_
            refine x_istore (ls' := [(4, .int 0), (3, .int 0), (0, .ref 98), (1, .int ((nI m) * 366)), (2, .int a3)]) rfl rfl rfl ?_
            refine x_iload (x := 0) rfl rfl ?_
            refine x_iloadn (x := 0) rfl rfl ?_
            refine x_icge (tgt := 80) rfl rfl (br_t (by decide) ?_)
            refine x_iloadn (x := 0) rfl rfl ?_
            refine x_iconst (v := 1) rfl ki_1 ?_
            refine y_isub (v := (-1)) rfl (by decide) ?_
            refine x_istore (ls' := [(4, .int (-1)), (3, .int 0), (0, .ref 98), (1, .int ((nI m) * 366)), (2, .int a3)]) rfl rfl rfl ?_
            refine x_iload (x := (-1)) rfl rfl ?_
            refine x_iflt (tgt := 167) rfl rfl (br_t (by decide) ?_)
            refine x_vret rfl rfl ?_
            show jX m_X4_runTurns 99 0 0 107 [(4, .int z), (0, .ref 107), (1, .int a1), (2, .int a2), (3, .int a3)] [] _ 0 0 _
            refine x_aloadn (x := 107) rfl rfl ?_
            refine x_getR (b := 98) 4 2 rfl f_4_67 rfl (congrArg Prod.fst (sh_si (sh_si (sh_si (sh_si (sh_si (sh_si (sh_si (F.1 107 (4, 18) rfl rfl))))))))) (rv_si (rv_si (rv_si (rv_si (rv_si (rv_si (rv_si (F.2.1 13698 98 rfl rfl)))))))) ?_
            refine x_iloadn (x := a1) rfl rfl ?_
            refine x_inv (N := m_X0_lastTurn) (As := [.int a1]) (b := 98) (st := []) (d' := 98) (mc := 0) (ms := 0) (host := "") 0 rfl t_X0_lastTurn ⟨Or.inl q_4_150, i_X0_lastTurn.1, i_X0_lastTurn.2⟩ ⟨by decide, rfl⟩ (congrArg Prod.fst (sh_si (sh_si (sh_si (sh_si (sh_si (sh_si (sh_si (F.1 98 (0, 16) rfl rfl))))))))) rfl (by decide) rfl rfl ⟨by decide, by decide⟩ (jC.of rfl k_X0_lastTurn rfl ?_)
            show jX m_X0_lastTurn 98 0 0 0 [(0, .ref 98), (1, .int a1)] [] _ 0 0 _
            refine x_iconst (v := 1) rfl ki_1 ?_
            refine x_istoren (ls' := [(2, .int 1), (0, .ref 98), (1, .int a1)]) rfl rfl rfl ?_
            refine x_iloadn (x := 1) rfl rfl ?_
            refine x_iflt (tgt := 106) rfl rfl (br_f (by decide) ?_)
            refine x_aloadn (x := 98) rfl rfl ?_
            refine x_getR (b := 32) 0 0 rfl f_0_57 rfl (congrArg Prod.fst (sh_si (sh_si (sh_si (sh_si (sh_si (sh_si (sh_si (F.1 98 (0, 16) rfl rfl))))))))) (rv_si (rv_si (rv_si (rv_si (rv_si (rv_si (rv_si (F.2.1 12544 32 rfl rfl)))))))) ?_
            refine y_getI (v := 0) 1 18 rfl f_0_72 rfl (congrArg Prod.fst (sh_si (sh_si (sh_si (sh_si (sh_si (sh_si (sh_si (F.1 32 (1, 20) rfl rfl))))))))) (iv_si rfl (iv_si rfl (iv_si rfl (iv_si rfl (iv_si rfl (iv_si rfl (iv_si rfl (F.2.2.1 4114 0 rfl rfl rfl)))))))) ?_
            refine x_iconst (v := 1) rfl ki_1 ?_
            refine y_isub (v := (-1)) rfl (by decide) ?_
            refine x_istoren (ls' := [(3, .int (-1)), (2, .int 1), (0, .ref 98), (1, .int a1)]) rfl rfl rfl ?_
            refine x_iloadn (x := (-1)) rfl rfl ?_
            refine x_iflt (tgt := 100) rfl rfl (br_t (by decide) ?_)
            refine x_iinc (x := 1) (v := 0) (ls' := [(2, .int 0), (3, .int (-1)), (0, .ref 98), (1, .int a1)]) rfl rfl (by decide) rfl rfl ?_
            refine x_goto (tgt := 2) rfl rfl ?_
            refine x_iloadn (x := 0) rfl rfl ?_
            refine x_iflt (tgt := 106) rfl rfl (br_f (by decide) ?_)
            refine x_aloadn (x := 98) rfl rfl ?_
            refine x_getR (b := 32) 0 0 rfl f_0_57 rfl (congrArg Prod.fst (sh_si (sh_si (sh_si (sh_si (sh_si (sh_si (sh_si (F.1 98 (0, 16) rfl rfl))))))))) (rv_si (rv_si (rv_si (rv_si (rv_si (rv_si (rv_si (F.2.1 12544 32 rfl rfl)))))))) ?_
            refine y_getI (v := 0) 1 18 rfl f_0_72 rfl (congrArg Prod.fst (sh_si (sh_si (sh_si (sh_si (sh_si (sh_si (sh_si (F.1 32 (1, 20) rfl rfl))))))))) (iv_si rfl (iv_si rfl (iv_si rfl (iv_si rfl (iv_si rfl (iv_si rfl (iv_si rfl (F.2.2.1 4114 0 rfl rfl rfl)))))))) ?_
            refine x_iconst (v := 1) rfl ki_1 ?_
            refine y_isub (v := (-1)) rfl (by decide) ?_
            refine x_istoren (ls' := [(3, .int (-1)), (2, .int 0), (0, .ref 98), (1, .int a1)]) rfl rfl rfl ?_
            refine x_iloadn (x := (-1)) rfl rfl ?_
            refine x_iflt (tgt := 100) rfl rfl (br_t (by decide) ?_)
            refine x_iinc (x := 0) (v := (-1)) (ls' := [(2, .int (-1)), (3, .int (-1)), (0, .ref 98), (1, .int a1)]) rfl rfl (by decide) rfl rfl ?_
            refine x_goto (tgt := 2) rfl rfl ?_
            refine x_iloadn (x := (-1)) rfl rfl ?_
            refine x_iflt (tgt := 106) rfl rfl (br_t (by decide) ?_)
            refine x_iconst (v := (-1)) rfl ki_m1 ?_
            refine x_iret rfl rfl ?_
            show jX m_X4_runTurns 99 0 0 115 [(4, .int z), (0, .ref 107), (1, .int a1), (2, .int a2), (3, .int a3)] [.int (-1)] _ 0 0 _
            refine x_istore (ls' := [(4, .int (-1)), (0, .ref 107), (1, .int a1), (2, .int a2), (3, .int a3)]) rfl rfl rfl ?_
            refine x_iload (x := (-1)) rfl rfl ?_
            refine x_iconst (v := (-1)) rfl ki_m1 ?_
            refine x_iceq (tgt := 157) rfl rfl (br_t (by decide) ?_)
            refine x_aloadn (x := 107) rfl rfl ?_
            refine x_dup rfl rfl ?_
            refine y_getI (v := nI m) 4 15 rfl f_4_50 rfl (congrArg Prod.fst (sh_si (sh_si (sh_si (sh_si (sh_si (sh_si (sh_si (F.1 107 (4, 18) rfl rfl))))))))) (iv_si rfl (iv_si rfl (iv_si rfl (iv_si rfl (iv_si rfl (iv_si rfl (iv_si rfl Y))))))) ?_
            refine x_iconst (v := 1) rfl ki_1 ?_
            refine x_iadd rfl ?_
            have c7 := jaddf (x := nI m) (y := 1) (show (nI m : Int32).toInt = (nI m).toInt from rfl) (show (1 : Int32).toInt = 1 by decide) (by omega)
            refine x_putI 4 15 rfl f_4_50 rfl (jfin_no TX4 RX4 18 rfl rfl) (congrArg Prod.fst (sh_si (sh_si (sh_si (sh_si (sh_si (sh_si (sh_si (F.1 107 (4, 18) rfl rfl))))))))) rfl ?_
            refine x_goto (tgt := 53) rfl rfl ?_
            exact ih (m + 1) (by omega) _ _ ⟨(jFe_sf rfl rfl rfl (jFe_sa rfl rfl (jFe_sa rfl rfl (jFe_sa rfl rfl (jFe_sf rfl rfl rfl (jFe_sf rfl rfl rfl (jFe_sa rfl rfl (jFe_sa rfl rfl F)))))))), (jFb_si rfl (jFb_si rfl (jFb_si rfl (jFb_si rfl (jFb_si rfl (jFb_si rfl (jFb_si rfl (jFb_si rfl FM)))))))), (jOl_si rfl (jOl_si rfl (jOl_si rfl (jOl_si rfl (jOl_si rfl (jOl_si rfl (jOl_si rfl (jOl_si rfl O)))))))), iv_eq.trans (jnI1b m), (fun j hj => (iv_si rfl (iv_si rfl (iv_si rfl (iv_si rfl (iv_si rfl (iv_si rfl (iv_si rfl (jarr1 hm (fun j hj => SB j hj) j hj))))))))), (fun j hj => (iv_si rfl (iv_si rfl (iv_si rfl (iv_si rfl (iv_si rfl (iv_si rfl (jarr1 hm (fun j hj => (iv_si rfl (PI j hj))) j hj))))))))⟩
          ·
            refine x_aloadn (x := 101) rfl rfl ?_
            refine x_iconst (v := 2) rfl ki_2 ?_
            refine y_iald (v := (jiv h 101 2)) (N := 3) 2 rfl (sh_si (sh_si (sh_si (sh_si (F.1 101 (100, 3) rfl rfl))))) (jinb_of (by decide)) (by decide) (iv_si rfl (iv_si rfl (iv_si rfl (iv_si rfl rfl)))) ?_
            refine x_iloadn (x := 1) rfl rfl ?_
            refine x_icne (tgt := 33) rfl rfl (ti_ne (show ((jiv h 101 2) : Int32).toInt = (jiv h 101 2).toInt from rfl) (show (1 : Int32).toInt = 1 by decide) ⟨fun c8 => ?_, fun c8 => ?_⟩)
            ·
              refine x_iconst (v := 0) rfl ki_0 ?_
              refine x_istore (ls' := [(4, .int 0), (0, .ref 101), (1, .int ((nI m) * 366)), (2, .int a3), (3, .int 1)]) rfl rfl rfl ?_
              refine x_aloadn (x := 101) rfl rfl ?_
              refine x_iconst (v := 0) rfl ki_0 ?_
              refine x_iloadn (x := (nI m) * 366) rfl rfl ?_
              refine y_iast (N := 3) 0 rfl (sh_si (sh_si (sh_si (sh_si (F.1 101 (100, 3) rfl rfl))))) rfl (jinb_of (by decide)) (by decide) ?_
              refine x_aloadn (x := 101) rfl rfl ?_
              refine x_iconst (v := 1) rfl ki_1 ?_
              refine x_iloadn (x := a3) rfl rfl ?_
              refine y_iast (N := 3) 1 rfl (sh_si (sh_si (sh_si (sh_si (sh_si (F.1 101 (100, 3) rfl rfl)))))) rfl (jinb_of (by decide)) (by decide) ?_
              refine x_aloadn (x := 101) rfl rfl ?_
              refine x_iconst (v := 2) rfl ki_2 ?_
              refine x_iloadn (x := 1) rfl rfl ?_
              refine y_iast (N := 3) 2 rfl (sh_si (sh_si (sh_si (sh_si (sh_si (sh_si (F.1 101 (100, 3) rfl rfl))))))) rfl (jinb_of (by decide)) (by decide) ?_
              refine x_iload (x := 0) rfl rfl ?_
              refine x_zret rfl rfl (by first | decide | exact jp_01 _) ?_
              show jX m_X0_readLaws 98 0 0 32 [(0, .ref 98), (1, .int ((nI m) * 366)), (2, .int a3)] [.int 0] _ 0 0 _
              refine x_ifeq (tgt := 36) rfl rfl (br_t (by decide) ?_)
              refine x_bipush (v := 30) rfl kb_30 ?_
              refine x_aloadn (x := 98) rfl rfl ?_
              refine x_getR (b := 32) 0 0 rfl f_0_57 rfl (congrArg Prod.fst (sh_si (sh_si (sh_si (sh_si (sh_si (sh_si (sh_si (F.1 98 (0, 16) rfl rfl))))))))) (rv_si (rv_si (rv_si (rv_si (rv_si (rv_si (rv_si (F.2.1 12544 32 rfl rfl)))))))) ?_
              refine y_getI (v := 0) 1 18 rfl f_0_72 rfl (congrArg Prod.fst (sh_si (sh_si (sh_si (sh_si (sh_si (sh_si (sh_si (F.1 32 (1, 20) rfl rfl))))))))) (iv_si rfl (iv_si rfl (iv_si rfl (iv_si rfl (iv_si rfl (iv_si rfl (iv_si rfl (F.2.2.1 4114 0 rfl rfl rfl)))))))) ?_
              refine x_mmin rfl q_0_88 (by decide) rfl (br_t (by decide) ?_)
              refine x_istoren (ls' := [(3, .int 0), (0, .ref 98), (1, .int ((nI m) * 366)), (2, .int a3)]) rfl rfl rfl ?_
              refine x_iconst (v := 0) rfl ki_0 ?_
              refine x_istore (ls' := [(4, .int 0), (3, .int 0), (0, .ref 98), (1, .int ((nI m) * 366)), (2, .int a3)]) rfl rfl rfl ?_
              refine x_iload (x := 0) rfl rfl ?_
              refine x_iloadn (x := 0) rfl rfl ?_
              refine x_icge (tgt := 80) rfl rfl (br_t (by decide) ?_)
              refine x_iloadn (x := 0) rfl rfl ?_
              refine x_iconst (v := 1) rfl ki_1 ?_
              refine y_isub (v := (-1)) rfl (by decide) ?_
              refine x_istore (ls' := [(4, .int (-1)), (3, .int 0), (0, .ref 98), (1, .int ((nI m) * 366)), (2, .int a3)]) rfl rfl rfl ?_
              refine x_iload (x := (-1)) rfl rfl ?_
              refine x_iflt (tgt := 167) rfl rfl (br_t (by decide) ?_)
              refine x_vret rfl rfl ?_
              show jX m_X4_runTurns 99 0 0 107 [(4, .int z), (0, .ref 107), (1, .int a1), (2, .int a2), (3, .int a3)] [] _ 0 0 _
              refine x_aloadn (x := 107) rfl rfl ?_
              refine x_getR (b := 98) 4 2 rfl f_4_67 rfl (congrArg Prod.fst (sh_si (sh_si (sh_si (sh_si (sh_si (sh_si (sh_si (F.1 107 (4, 18) rfl rfl))))))))) (rv_si (rv_si (rv_si (rv_si (rv_si (rv_si (rv_si (F.2.1 13698 98 rfl rfl)))))))) ?_
              refine x_iloadn (x := a1) rfl rfl ?_
              refine x_inv (N := m_X0_lastTurn) (As := [.int a1]) (b := 98) (st := []) (d' := 98) (mc := 0) (ms := 0) (host := "") 0 rfl t_X0_lastTurn ⟨Or.inl q_4_150, i_X0_lastTurn.1, i_X0_lastTurn.2⟩ ⟨by decide, rfl⟩ (congrArg Prod.fst (sh_si (sh_si (sh_si (sh_si (sh_si (sh_si (sh_si (F.1 98 (0, 16) rfl rfl))))))))) rfl (by decide) rfl rfl ⟨by decide, by decide⟩ (jC.of rfl k_X0_lastTurn rfl ?_)
              show jX m_X0_lastTurn 98 0 0 0 [(0, .ref 98), (1, .int a1)] [] _ 0 0 _
              refine x_iconst (v := 1) rfl ki_1 ?_
              refine x_istoren (ls' := [(2, .int 1), (0, .ref 98), (1, .int a1)]) rfl rfl rfl ?_
              refine x_iloadn (x := 1) rfl rfl ?_
              refine x_iflt (tgt := 106) rfl rfl (br_f (by decide) ?_)
              refine x_aloadn (x := 98) rfl rfl ?_
              refine x_getR (b := 32) 0 0 rfl f_0_57 rfl (congrArg Prod.fst (sh_si (sh_si (sh_si (sh_si (sh_si (sh_si (sh_si (F.1 98 (0, 16) rfl rfl))))))))) (rv_si (rv_si (rv_si (rv_si (rv_si (rv_si (rv_si (F.2.1 12544 32 rfl rfl)))))))) ?_
              refine y_getI (v := 0) 1 18 rfl f_0_72 rfl (congrArg Prod.fst (sh_si (sh_si (sh_si (sh_si (sh_si (sh_si (sh_si (F.1 32 (1, 20) rfl rfl))))))))) (iv_si rfl (iv_si rfl (iv_si rfl (iv_si rfl (iv_si rfl (iv_si rfl (iv_si rfl (F.2.2.1 4114 0 rfl rfl rfl)))))))) ?_
              refine x_iconst (v := 1) rfl ki_1 ?_
              refine y_isub (v := (-1)) rfl (by decide) ?_
              refine x_istoren (ls' := [(3, .int (-1)), (2, .int 1), (0, .ref 98), (1, .int a1)]) rfl rfl rfl ?_
              refine x_iloadn (x := (-1)) rfl rfl ?_
              refine x_iflt (tgt := 100) rfl rfl (br_t (by decide) ?_)
              refine x_iinc (x := 1) (v := 0) (ls' := [(2, .int 0), (3, .int (-1)), (0, .ref 98), (1, .int a1)]) rfl rfl (by decide) rfl rfl ?_
              refine x_goto (tgt := 2) rfl rfl ?_
              refine x_iloadn (x := 0) rfl rfl ?_
              refine x_iflt (tgt := 106) rfl rfl (br_f (by decide) ?_)
              refine x_aloadn (x := 98) rfl rfl ?_
              refine x_getR (b := 32) 0 0 rfl f_0_57 rfl (congrArg Prod.fst (sh_si (sh_si (sh_si (sh_si (sh_si (sh_si (sh_si (F.1 98 (0, 16) rfl rfl))))))))) (rv_si (rv_si (rv_si (rv_si (rv_si (rv_si (rv_si (F.2.1 12544 32 rfl rfl)))))))) ?_
              refine y_getI (v := 0) 1 18 rfl f_0_72 rfl (congrArg Prod.fst (sh_si (sh_si (sh_si (sh_si (sh_si (sh_si (sh_si (F.1 32 (1, 20) rfl rfl))))))))) (iv_si rfl (iv_si rfl (iv_si rfl (iv_si rfl (iv_si rfl (iv_si rfl (iv_si rfl (F.2.2.1 4114 0 rfl rfl rfl)))))))) ?_
              refine x_iconst (v := 1) rfl ki_1 ?_
              refine y_isub (v := (-1)) rfl (by decide) ?_
              refine x_istoren (ls' := [(3, .int (-1)), (2, .int 0), (0, .ref 98), (1, .int a1)]) rfl rfl rfl ?_
              refine x_iloadn (x := (-1)) rfl rfl ?_
              refine x_iflt (tgt := 100) rfl rfl (br_t (by decide) ?_)
              refine x_iinc (x := 0) (v := (-1)) (ls' := [(2, .int (-1)), (3, .int (-1)), (0, .ref 98), (1, .int a1)]) rfl rfl (by decide) rfl rfl ?_
              refine x_goto (tgt := 2) rfl rfl ?_
              refine x_iloadn (x := (-1)) rfl rfl ?_
              refine x_iflt (tgt := 106) rfl rfl (br_t (by decide) ?_)
              refine x_iconst (v := (-1)) rfl ki_m1 ?_
              refine x_iret rfl rfl ?_
              show jX m_X4_runTurns 99 0 0 115 [(4, .int z), (0, .ref 107), (1, .int a1), (2, .int a2), (3, .int a3)] [.int (-1)] _ 0 0 _
              refine x_istore (ls' := [(4, .int (-1)), (0, .ref 107), (1, .int a1), (2, .int a2), (3, .int a3)]) rfl rfl rfl ?_
              refine x_iload (x := (-1)) rfl rfl ?_
              refine x_iconst (v := (-1)) rfl ki_m1 ?_
              refine x_iceq (tgt := 157) rfl rfl (br_t (by decide) ?_)
              refine x_aloadn (x := 107) rfl rfl ?_
              refine x_dup rfl rfl ?_
              refine y_getI (v := nI m) 4 15 rfl f_4_50 rfl (congrArg Prod.fst (sh_si (sh_si (sh_si (sh_si (sh_si (sh_si (sh_si (F.1 107 (4, 18) rfl rfl))))))))) (iv_si rfl (iv_si rfl (iv_si rfl (iv_si rfl (iv_si rfl (iv_si rfl (iv_si rfl Y))))))) ?_
              refine x_iconst (v := 1) rfl ki_1 ?_
              refine x_iadd rfl ?_
              have c9 := jaddf (x := nI m) (y := 1) (show (nI m : Int32).toInt = (nI m).toInt from rfl) (show (1 : Int32).toInt = 1 by decide) (by omega)
              refine x_putI 4 15 rfl f_4_50 rfl (jfin_no TX4 RX4 18 rfl rfl) (congrArg Prod.fst (sh_si (sh_si (sh_si (sh_si (sh_si (sh_si (sh_si (F.1 107 (4, 18) rfl rfl))))))))) rfl ?_
              refine x_goto (tgt := 53) rfl rfl ?_
              exact ih (m + 1) (by omega) _ _ ⟨(jFe_sf rfl rfl rfl (jFe_sa rfl rfl (jFe_sa rfl rfl (jFe_sa rfl rfl (jFe_sf rfl rfl rfl (jFe_sf rfl rfl rfl (jFe_sa rfl rfl (jFe_sa rfl rfl F)))))))), (jFb_si rfl (jFb_si rfl (jFb_si rfl (jFb_si rfl (jFb_si rfl (jFb_si rfl (jFb_si rfl (jFb_si rfl FM)))))))), (jOl_si rfl (jOl_si rfl (jOl_si rfl (jOl_si rfl (jOl_si rfl (jOl_si rfl (jOl_si rfl (jOl_si rfl O)))))))), iv_eq.trans (jnI1b m), (fun j hj => (iv_si rfl (iv_si rfl (iv_si rfl (iv_si rfl (iv_si rfl (iv_si rfl (iv_si rfl (jarr1 hm (fun j hj => SB j hj) j hj))))))))), (fun j hj => (iv_si rfl (iv_si rfl (iv_si rfl (iv_si rfl (iv_si rfl (iv_si rfl (jarr1 hm (fun j hj => (iv_si rfl (PI j hj))) j hj))))))))⟩
            ·
              refine x_iconst (v := 1) rfl ki_1 ?_
              refine x_goto (tgt := 34) rfl rfl ?_
              refine x_istore (ls' := [(4, .int 1), (0, .ref 101), (1, .int ((nI m) * 366)), (2, .int a3), (3, .int 1)]) rfl rfl rfl ?_
              refine x_aloadn (x := 101) rfl rfl ?_
              refine x_iconst (v := 0) rfl ki_0 ?_
              refine x_iloadn (x := (nI m) * 366) rfl rfl ?_
              refine y_iast (N := 3) 0 rfl (sh_si (sh_si (sh_si (sh_si (F.1 101 (100, 3) rfl rfl))))) rfl (jinb_of (by decide)) (by decide) ?_
              refine x_aloadn (x := 101) rfl rfl ?_
              refine x_iconst (v := 1) rfl ki_1 ?_
              refine x_iloadn (x := a3) rfl rfl ?_
              refine y_iast (N := 3) 1 rfl (sh_si (sh_si (sh_si (sh_si (sh_si (F.1 101 (100, 3) rfl rfl)))))) rfl (jinb_of (by decide)) (by decide) ?_
              refine x_aloadn (x := 101) rfl rfl ?_
              refine x_iconst (v := 2) rfl ki_2 ?_
              refine x_iloadn (x := 1) rfl rfl ?_
              refine y_iast (N := 3) 2 rfl (sh_si (sh_si (sh_si (sh_si (sh_si (sh_si (F.1 101 (100, 3) rfl rfl))))))) rfl (jinb_of (by decide)) (by decide) ?_
              refine x_iload (x := 1) rfl rfl ?_
              refine x_zret rfl rfl (by first | decide | exact jp_01 _) ?_
              show jX m_X0_readLaws 98 0 0 32 [(0, .ref 98), (1, .int ((nI m) * 366)), (2, .int a3)] [.int 1] _ 0 0 _
              refine x_ifeq (tgt := 36) rfl rfl (br_f (by decide) ?_)
              refine x_vret rfl rfl ?_
              show jX m_X4_runTurns 99 0 0 107 [(4, .int z), (0, .ref 107), (1, .int a1), (2, .int a2), (3, .int a3)] [] _ 0 0 _
              refine x_aloadn (x := 107) rfl rfl ?_
              refine x_getR (b := 98) 4 2 rfl f_4_67 rfl (congrArg Prod.fst (sh_si (sh_si (sh_si (sh_si (sh_si (sh_si (sh_si (F.1 107 (4, 18) rfl rfl))))))))) (rv_si (rv_si (rv_si (rv_si (rv_si (rv_si (rv_si (F.2.1 13698 98 rfl rfl)))))))) ?_
              refine x_iloadn (x := a1) rfl rfl ?_
              refine x_inv (N := m_X0_lastTurn) (As := [.int a1]) (b := 98) (st := []) (d' := 98) (mc := 0) (ms := 0) (host := "") 0 rfl t_X0_lastTurn ⟨Or.inl q_4_150, i_X0_lastTurn.1, i_X0_lastTurn.2⟩ ⟨by decide, rfl⟩ (congrArg Prod.fst (sh_si (sh_si (sh_si (sh_si (sh_si (sh_si (sh_si (F.1 98 (0, 16) rfl rfl))))))))) rfl (by decide) rfl rfl ⟨by decide, by decide⟩ (jC.of rfl k_X0_lastTurn rfl ?_)
              show jX m_X0_lastTurn 98 0 0 0 [(0, .ref 98), (1, .int a1)] [] _ 0 0 _
              refine x_iconst (v := 1) rfl ki_1 ?_
              refine x_istoren (ls' := [(2, .int 1), (0, .ref 98), (1, .int a1)]) rfl rfl rfl ?_
              refine x_iloadn (x := 1) rfl rfl ?_
              refine x_iflt (tgt := 106) rfl rfl (br_f (by decide) ?_)
              refine x_aloadn (x := 98) rfl rfl ?_
              refine x_getR (b := 32) 0 0 rfl f_0_57 rfl (congrArg Prod.fst (sh_si (sh_si (sh_si (sh_si (sh_si (sh_si (sh_si (F.1 98 (0, 16) rfl rfl))))))))) (rv_si (rv_si (rv_si (rv_si (rv_si (rv_si (rv_si (F.2.1 12544 32 rfl rfl)))))))) ?_
              refine y_getI (v := 0) 1 18 rfl f_0_72 rfl (congrArg Prod.fst (sh_si (sh_si (sh_si (sh_si (sh_si (sh_si (sh_si (F.1 32 (1, 20) rfl rfl))))))))) (iv_si rfl (iv_si rfl (iv_si rfl (iv_si rfl (iv_si rfl (iv_si rfl (iv_si rfl (F.2.2.1 4114 0 rfl rfl rfl)))))))) ?_
              refine x_iconst (v := 1) rfl ki_1 ?_
              refine y_isub (v := (-1)) rfl (by decide) ?_
              refine x_istoren (ls' := [(3, .int (-1)), (2, .int 1), (0, .ref 98), (1, .int a1)]) rfl rfl rfl ?_
              refine x_iloadn (x := (-1)) rfl rfl ?_
              refine x_iflt (tgt := 100) rfl rfl (br_t (by decide) ?_)
              refine x_iinc (x := 1) (v := 0) (ls' := [(2, .int 0), (3, .int (-1)), (0, .ref 98), (1, .int a1)]) rfl rfl (by decide) rfl rfl ?_
              refine x_goto (tgt := 2) rfl rfl ?_
              refine x_iloadn (x := 0) rfl rfl ?_
              refine x_iflt (tgt := 106) rfl rfl (br_f (by decide) ?_)
              refine x_aloadn (x := 98) rfl rfl ?_
              refine x_getR (b := 32) 0 0 rfl f_0_57 rfl (congrArg Prod.fst (sh_si (sh_si (sh_si (sh_si (sh_si (sh_si (sh_si (F.1 98 (0, 16) rfl rfl))))))))) (rv_si (rv_si (rv_si (rv_si (rv_si (rv_si (rv_si (F.2.1 12544 32 rfl rfl)))))))) ?_
              refine y_getI (v := 0) 1 18 rfl f_0_72 rfl (congrArg Prod.fst (sh_si (sh_si (sh_si (sh_si (sh_si (sh_si (sh_si (F.1 32 (1, 20) rfl rfl))))))))) (iv_si rfl (iv_si rfl (iv_si rfl (iv_si rfl (iv_si rfl (iv_si rfl (iv_si rfl (F.2.2.1 4114 0 rfl rfl rfl)))))))) ?_
              refine x_iconst (v := 1) rfl ki_1 ?_
              refine y_isub (v := (-1)) rfl (by decide) ?_
              refine x_istoren (ls' := [(3, .int (-1)), (2, .int 0), (0, .ref 98), (1, .int a1)]) rfl rfl rfl ?_
              refine x_iloadn (x := (-1)) rfl rfl ?_
              refine x_iflt (tgt := 100) rfl rfl (br_t (by decide) ?_)
              refine x_iinc (x := 0) (v := (-1)) (ls' := [(2, .int (-1)), (3, .int (-1)), (0, .ref 98), (1, .int a1)]) rfl rfl (by decide) rfl rfl ?_
              refine x_goto (tgt := 2) rfl rfl ?_
              refine x_iloadn (x := (-1)) rfl rfl ?_
              refine x_iflt (tgt := 106) rfl rfl (br_t (by decide) ?_)
              refine x_iconst (v := (-1)) rfl ki_m1 ?_
              refine x_iret rfl rfl ?_
              show jX m_X4_runTurns 99 0 0 115 [(4, .int z), (0, .ref 107), (1, .int a1), (2, .int a2), (3, .int a3)] [.int (-1)] _ 0 0 _
              refine x_istore (ls' := [(4, .int (-1)), (0, .ref 107), (1, .int a1), (2, .int a2), (3, .int a3)]) rfl rfl rfl ?_
              refine x_iload (x := (-1)) rfl rfl ?_
              refine x_iconst (v := (-1)) rfl ki_m1 ?_
              refine x_iceq (tgt := 157) rfl rfl (br_t (by decide) ?_)
              refine x_aloadn (x := 107) rfl rfl ?_
              refine x_dup rfl rfl ?_
              refine y_getI (v := nI m) 4 15 rfl f_4_50 rfl (congrArg Prod.fst (sh_si (sh_si (sh_si (sh_si (sh_si (sh_si (sh_si (F.1 107 (4, 18) rfl rfl))))))))) (iv_si rfl (iv_si rfl (iv_si rfl (iv_si rfl (iv_si rfl (iv_si rfl (iv_si rfl Y))))))) ?_
              refine x_iconst (v := 1) rfl ki_1 ?_
              refine x_iadd rfl ?_
              have c10 := jaddf (x := nI m) (y := 1) (show (nI m : Int32).toInt = (nI m).toInt from rfl) (show (1 : Int32).toInt = 1 by decide) (by omega)
              refine x_putI 4 15 rfl f_4_50 rfl (jfin_no TX4 RX4 18 rfl rfl) (congrArg Prod.fst (sh_si (sh_si (sh_si (sh_si (sh_si (sh_si (sh_si (F.1 107 (4, 18) rfl rfl))))))))) rfl ?_
              refine x_goto (tgt := 53) rfl rfl ?_
              exact ih (m + 1) (by omega) _ _ ⟨(jFe_sf rfl rfl rfl (jFe_sa rfl rfl (jFe_sa rfl rfl (jFe_sa rfl rfl (jFe_sf rfl rfl rfl (jFe_sf rfl rfl rfl (jFe_sa rfl rfl (jFe_sa rfl rfl F)))))))), (jFb_si rfl (jFb_si rfl (jFb_si rfl (jFb_si rfl (jFb_si rfl (jFb_si rfl (jFb_si rfl (jFb_si rfl FM)))))))), (jOl_si rfl (jOl_si rfl (jOl_si rfl (jOl_si rfl (jOl_si rfl (jOl_si rfl (jOl_si rfl (jOl_si rfl O)))))))), iv_eq.trans (jnI1b m), (fun j hj => (iv_si rfl (iv_si rfl (iv_si rfl (iv_si rfl (iv_si rfl (iv_si rfl (iv_si rfl (jarr1 hm (fun j hj => SB j hj) j hj))))))))), (fun j hj => (iv_si rfl (iv_si rfl (iv_si rfl (iv_si rfl (iv_si rfl (iv_si rfl (jarr1 hm (fun j hj => (iv_si rfl (PI j hj))) j hj))))))))⟩
set_option maxRecDepth 100000 in
set_option maxHeartbeats 40000000 in
theorem c_runTurns {a1 a2 a3 : Int32} {xs : Nat → Int32} {h : jH} {Q : Option Value → jH → Prop} (ha : 0 ≤ a2.toInt ∧ a2.toInt ≤ 399) (F : jFe jXI0 jXA0 31 h) (FM : jFb 125 h) (O : jOl 7 xs h) (hQ : ∀ h' (m : Nat), (m : Int) = a2.toInt + 1 → jTv xs m h' → Q none h') : jC m_X4_runTurns 99 0 0 [.ref 107, .int a1, .int a2, .int a3] h Q := by
  refine jC.of rfl k_X4_runTurns rfl ?_
  show jX m_X4_runTurns 99 0 0 0 [(0, .ref 107), (1, .int a1), (2, .int a2), (3, .int a3)] [] _ 0 0 _
  refine x_aloadn (x := 107) rfl rfl ?_
  refine x_getR (b := 119) 4 17 rfl f_4_56 rfl (congrArg Prod.fst (F.1 107 (4, 18) rfl rfl)) (F.2.1 13713 119 rfl rfl) ?_
  refine x_iloadn (x := a1) rfl rfl ?_
  refine x_iloadn (x := a3) rfl rfl ?_
  refine x_aloadn (x := 107) rfl rfl ?_
  refine x_getR (b := 32) 4 0 rfl f_4_59 rfl (congrArg Prod.fst (F.1 107 (4, 18) rfl rfl)) (F.2.1 13696 32 rfl rfl) ?_
  refine y_getI (v := 1) 1 19 rfl f_4_88 rfl (congrArg Prod.fst (F.1 32 (1, 20) rfl rfl)) (F.2.2.1 4115 1 rfl rfl rfl) ?_
  refine x_inst (N := m_X11_isFresh) (As := [.ref 119, .int a1, .int a3, .int 1]) (st := []) (d' := 98) (mc := 0) (ms := 0) (host := "ParishChest") rfl t_X11_isFresh ⟨Or.inr q_4_91, s_X11_isFresh⟩ rfl (by decide) rfl rfl ⟨by decide, by decide⟩ (jC.of rfl k_X11_isFresh rfl ?_)
  show jX m_X11_isFresh 98 0 0 0 [(0, .ref 119), (1, .int a1), (2, .int a3), (3, .int 1)] [] _ 0 0 _
  refine x_aloadn (x := 119) rfl rfl ?_
  refine y_alen (N := 3) (v := 3) rfl (F.1 119 (100, 3) rfl rfl) (by decide) (by decide) ?_
  refine x_iconst (v := 3) rfl ki_3 ?_
  refine x_icge (tgt := 8) rfl rfl (br_t (by decide) ?_)
  refine x_aloadn (x := 119) rfl rfl ?_
  refine x_iconst (v := 0) rfl ki_0 ?_
  refine y_iald (v := 0) (N := 3) 0 rfl (F.1 119 (100, 3) rfl rfl) (jinb_of (by decide)) (by decide) (F.2.2.2.1 119 rfl rfl rfl 0).1 ?_
  refine x_iloadn (x := a1) rfl rfl ?_
  refine x_icne (tgt := 33) rfl rfl (ti_ne (show (0 : Int32).toInt = 0 by decide) (show (a1 : Int32).toInt = a1.toInt from rfl) ⟨fun c1 => ?_, fun c1 => ?_⟩)
  ·
    refine x_iconst (v := 0) rfl ki_0 ?_
    refine x_istore (ls' := [(4, .int 0), (0, .ref 119), (1, .int a1), (2, .int a3), (3, .int 1)]) rfl rfl rfl ?_
    refine x_aloadn (x := 119) rfl rfl ?_
    refine x_iconst (v := 0) rfl ki_0 ?_
    refine x_iloadn (x := a1) rfl rfl ?_
    refine y_iast (N := 3) 0 rfl (F.1 119 (100, 3) rfl rfl) rfl (jinb_of (by decide)) (by decide) ?_
    refine x_aloadn (x := 119) rfl rfl ?_
    refine x_iconst (v := 1) rfl ki_1 ?_
    refine x_iloadn (x := a3) rfl rfl ?_
    refine y_iast (N := 3) 1 rfl (sh_si (F.1 119 (100, 3) rfl rfl)) rfl (jinb_of (by decide)) (by decide) ?_
    refine x_aloadn (x := 119) rfl rfl ?_
    refine x_iconst (v := 2) rfl ki_2 ?_
    refine x_iloadn (x := 1) rfl rfl ?_
    refine y_iast (N := 3) 2 rfl (sh_si (sh_si (F.1 119 (100, 3) rfl rfl))) rfl (jinb_of (by decide)) (by decide) ?_
    refine x_iload (x := 0) rfl rfl ?_
    refine x_zret rfl rfl (by first | decide | exact jp_01 _) ?_
    show jX m_X4_runTurns 99 0 0 16 [(0, .ref 107), (1, .int a1), (2, .int a2), (3, .int a3)] [.int 0] _ 0 0 _
    refine x_ifne (tgt := 53) rfl rfl (bn_f (by decide) ?_)
    refine x_aloadn (x := 107) rfl rfl ?_
    refine x_iconst (v := 0) rfl ki_0 ?_
    refine x_putI 4 15 rfl f_4_50 rfl (jfin_no TX4 RX4 18 rfl rfl) (congrArg Prod.fst (sh_si (sh_si (sh_si (F.1 107 (4, 18) rfl rfl))))) rfl ?_
    refine x_aloadn (x := 107) rfl rfl ?_
    refine x_iconst (v := (-1)) rfl ki_m1 ?_
    refine x_putI 4 16 rfl f_4_53 rfl (jfin_no TX4 RX4 18 rfl rfl) (congrArg Prod.fst (sh_si (sh_si (sh_si (sh_si (F.1 107 (4, 18) rfl rfl)))))) rfl ?_
    refine x_iconst (v := 0) rfl ki_0 ?_
    refine x_istore (ls' := [(4, .int 0), (0, .ref 107), (1, .int a1), (2, .int a2), (3, .int a3)]) rfl rfl rfl ?_
    refine x_iload (x := 0) rfl rfl ?_
    refine x_bipush (v := 40) rfl kb_40 ?_
    refine x_icge (tgt := 53) rfl rfl (br_f (by decide) ?_)
    refine x_aloadn (x := 107) rfl rfl ?_
    refine x_getR (b := 117) 4 13 rfl f_4_44 rfl (congrArg Prod.fst (sh_si (sh_si (sh_si (sh_si (sh_si (F.1 107 (4, 18) rfl rfl))))))) (rv_si (rv_si (rv_si (rv_si (rv_si (F.2.1 13709 117 rfl rfl)))))) ?_
    refine x_iload (x := 0) rfl rfl ?_
    refine x_iconst (v := (-1)) rfl ki_m1 ?_
    refine y_iast (N := 40) 0 rfl (sh_si (sh_si (sh_si (sh_si (sh_si (F.1 117 (100, 40) rfl rfl)))))) rfl (jinb_of (by decide)) (by decide) ?_
    refine x_iinc (x := 0) (v := 1) (ls' := [(4, .int 1), (0, .ref 107), (1, .int a1), (2, .int a2), (3, .int a3)]) rfl rfl (by decide) rfl rfl ?_
    refine x_goto (tgt := 32) rfl rfl ?_
    refine x_iload (x := 1) rfl rfl ?_
    refine x_bipush (v := 40) rfl kb_40 ?_
    refine x_icge (tgt := 53) rfl rfl (br_f (by decide) ?_)
    refine x_aloadn (x := 107) rfl rfl ?_
    refine x_getR (b := 117) 4 13 rfl f_4_44 rfl (congrArg Prod.fst (sh_si (sh_si (sh_si (sh_si (sh_si (sh_si (F.1 107 (4, 18) rfl rfl)))))))) (rv_si (rv_si (rv_si (rv_si (rv_si (rv_si (F.2.1 13709 117 rfl rfl))))))) ?_
    refine x_iload (x := 1) rfl rfl ?_
    refine x_iconst (v := (-1)) rfl ki_m1 ?_
    refine y_iast (N := 40) 1 rfl (sh_si (sh_si (sh_si (sh_si (sh_si (sh_si (F.1 117 (100, 40) rfl rfl))))))) rfl (jinb_of (by decide)) (by decide) ?_
    refine x_iinc (x := 1) (v := 2) (ls' := [(4, .int 2), (0, .ref 107), (1, .int a1), (2, .int a2), (3, .int a3)]) rfl rfl (by decide) rfl rfl ?_
    refine x_goto (tgt := 32) rfl rfl ?_
    refine x_iload (x := 2) rfl rfl ?_
    refine x_bipush (v := 40) rfl kb_40 ?_
    refine x_icge (tgt := 53) rfl rfl (br_f (by decide) ?_)
    refine x_aloadn (x := 107) rfl rfl ?_
    refine x_getR (b := 117) 4 13 rfl f_4_44 rfl (congrArg Prod.fst (sh_si (sh_si (sh_si (sh_si (sh_si (sh_si (sh_si (F.1 107 (4, 18) rfl rfl))))))))) (rv_si (rv_si (rv_si (rv_si (rv_si (rv_si (rv_si (F.2.1 13709 117 rfl rfl)))))))) ?_
    refine x_iload (x := 2) rfl rfl ?_
    refine x_iconst (v := (-1)) rfl ki_m1 ?_
    refine y_iast (N := 40) 2 rfl (sh_si (sh_si (sh_si (sh_si (sh_si (sh_si (sh_si (F.1 117 (100, 40) rfl rfl)))))))) rfl (jinb_of (by decide)) (by decide) ?_
    refine x_iinc (x := 2) (v := 3) (ls' := [(4, .int 3), (0, .ref 107), (1, .int a1), (2, .int a2), (3, .int a3)]) rfl rfl (by decide) rfl rfl ?_
    refine x_goto (tgt := 32) rfl rfl ?_
    refine x_iload (x := 3) rfl rfl ?_
    refine x_bipush (v := 40) rfl kb_40 ?_
    refine x_icge (tgt := 53) rfl rfl (br_f (by decide) ?_)
    refine x_aloadn (x := 107) rfl rfl ?_
    refine x_getR (b := 117) 4 13 rfl f_4_44 rfl (congrArg Prod.fst (sh_si (sh_si (sh_si (sh_si (sh_si (sh_si (sh_si (sh_si (F.1 107 (4, 18) rfl rfl)))))))))) (rv_si (rv_si (rv_si (rv_si (rv_si (rv_si (rv_si (rv_si (F.2.1 13709 117 rfl rfl))))))))) ?_
    refine x_iload (x := 3) rfl rfl ?_
    refine x_iconst (v := (-1)) rfl ki_m1 ?_
    refine y_iast (N := 40) 3 rfl (sh_si (sh_si (sh_si (sh_si (sh_si (sh_si (sh_si (sh_si (F.1 117 (100, 40) rfl rfl))))))))) rfl (jinb_of (by decide)) (by decide) ?_
    refine x_iinc (x := 3) (v := 4) (ls' := [(4, .int 4), (0, .ref 107), (1, .int a1), (2, .int a2), (3, .int a3)]) rfl rfl (by decide) rfl rfl ?_
    refine x_goto (tgt := 32) rfl rfl ?_
    refine x_iload (x := 4) rfl rfl ?_
    refine x_bipush (v := 40) rfl kb_40 ?_
    refine x_icge (tgt := 53) rfl rfl (br_f (by decide) ?_)
    refine x_aloadn (x := 107) rfl rfl ?_
    refine x_getR (b := 117) 4 13 rfl f_4_44 rfl (congrArg Prod.fst (sh_si (sh_si (sh_si (sh_si (sh_si (sh_si (sh_si (sh_si (sh_si (F.1 107 (4, 18) rfl rfl))))))))))) (rv_si (rv_si (rv_si (rv_si (rv_si (rv_si (rv_si (rv_si (rv_si (F.2.1 13709 117 rfl rfl)))))))))) ?_
    refine x_iload (x := 4) rfl rfl ?_
    refine x_iconst (v := (-1)) rfl ki_m1 ?_
    refine y_iast (N := 40) 4 rfl (sh_si (sh_si (sh_si (sh_si (sh_si (sh_si (sh_si (sh_si (sh_si (F.1 117 (100, 40) rfl rfl)))))))))) rfl (jinb_of (by decide)) (by decide) ?_
    refine x_iinc (x := 4) (v := 5) (ls' := [(4, .int 5), (0, .ref 107), (1, .int a1), (2, .int a2), (3, .int a3)]) rfl rfl (by decide) rfl rfl ?_
    refine x_goto (tgt := 32) rfl rfl ?_
    refine x_iload (x := 5) rfl rfl ?_
    refine x_bipush (v := 40) rfl kb_40 ?_
    refine x_icge (tgt := 53) rfl rfl (br_f (by decide) ?_)
    refine x_aloadn (x := 107) rfl rfl ?_
    refine x_getR (b := 117) 4 13 rfl f_4_44 rfl (congrArg Prod.fst (sh_si (sh_si (sh_si (sh_si (sh_si (sh_si (sh_si (sh_si (sh_si (sh_si (F.1 107 (4, 18) rfl rfl)))))))))))) (rv_si (rv_si (rv_si (rv_si (rv_si (rv_si (rv_si (rv_si (rv_si (rv_si (F.2.1 13709 117 rfl rfl))))))))))) ?_
    refine x_iload (x := 5) rfl rfl ?_
    refine x_iconst (v := (-1)) rfl ki_m1 ?_
    refine y_iast (N := 40) 5 rfl (sh_si (sh_si (sh_si (sh_si (sh_si (sh_si (sh_si (sh_si (sh_si (sh_si (F.1 117 (100, 40) rfl rfl))))))))))) rfl (jinb_of (by decide)) (by decide) ?_
    refine x_iinc (x := 5) (v := 6) (ls' := [(4, .int 6), (0, .ref 107), (1, .int a1), (2, .int a2), (3, .int a3)]) rfl rfl (by decide) rfl rfl ?_
    refine x_goto (tgt := 32) rfl rfl ?_
    refine x_iload (x := 6) rfl rfl ?_
    refine x_bipush (v := 40) rfl kb_40 ?_
    refine x_icge (tgt := 53) rfl rfl (br_f (by decide) ?_)
    refine x_aloadn (x := 107) rfl rfl ?_
    refine x_getR (b := 117) 4 13 rfl f_4_44 rfl (congrArg Prod.fst (sh_si (sh_si (sh_si (sh_si (sh_si (sh_si (sh_si (sh_si (sh_si (sh_si (sh_si (F.1 107 (4, 18) rfl rfl))))))))))))) (rv_si (rv_si (rv_si (rv_si (rv_si (rv_si (rv_si (rv_si (rv_si (rv_si (rv_si (F.2.1 13709 117 rfl rfl)))))))))))) ?_
    refine x_iload (x := 6) rfl rfl ?_
    refine x_iconst (v := (-1)) rfl ki_m1 ?_
    refine y_iast (N := 40) 6 rfl (sh_si (sh_si (sh_si (sh_si (sh_si (sh_si (sh_si (sh_si (sh_si (sh_si (sh_si (F.1 117 (100, 40) rfl rfl)))))))))))) rfl (jinb_of (by decide)) (by decide) ?_
    refine x_iinc (x := 6) (v := 7) (ls' := [(4, .int 7), (0, .ref 107), (1, .int a1), (2, .int a2), (3, .int a3)]) rfl rfl (by decide) rfl rfl ?_
    refine x_goto (tgt := 32) rfl rfl ?_
    refine x_iload (x := 7) rfl rfl ?_
    refine x_bipush (v := 40) rfl kb_40 ?_
    refine x_icge (tgt := 53) rfl rfl (br_f (by decide) ?_)
    refine x_aloadn (x := 107) rfl rfl ?_
    refine x_getR (b := 117) 4 13 rfl f_4_44 rfl (congrArg Prod.fst (sh_si (sh_si (sh_si (sh_si (sh_si (sh_si (sh_si (sh_si (sh_si (sh_si (sh_si (sh_si (F.1 107 (4, 18) rfl rfl)))))))))))))) (rv_si (rv_si (rv_si (rv_si (rv_si (rv_si (rv_si (rv_si (rv_si (rv_si (rv_si (rv_si (F.2.1 13709 117 rfl rfl))))))))))))) ?_
    refine x_iload (x := 7) rfl rfl ?_
    refine x_iconst (v := (-1)) rfl ki_m1 ?_
    refine y_iast (N := 40) 7 rfl (sh_si (sh_si (sh_si (sh_si (sh_si (sh_si (sh_si (sh_si (sh_si (sh_si (sh_si (sh_si (F.1 117 (100, 40) rfl rfl))))))))))))) rfl (jinb_of (by decide)) (by decide) ?_
    refine x_iinc (x := 7) (v := 8) (ls' := [(4, .int 8), (0, .ref 107), (1, .int a1), (2, .int a2), (3, .int a3)]) rfl rfl (by decide) rfl rfl ?_
    refine x_goto (tgt := 32) rfl rfl ?_
    refine x_iload (x := 8) rfl rfl ?_
    refine x_bipush (v := 40) rfl kb_40 ?_
    refine x_icge (tgt := 53) rfl rfl (br_f (by decide) ?_)
    refine x_aloadn (x := 107) rfl rfl ?_
    refine x_getR (b := 117) 4 13 rfl f_4_44 rfl (congrArg Prod.fst (sh_si (sh_si (sh_si (sh_si (sh_si (sh_si (sh_si (sh_si (sh_si (sh_si (sh_si (sh_si (sh_si (F.1 107 (4, 18) rfl rfl))))))))))))))) (rv_si (rv_si (rv_si (rv_si (rv_si (rv_si (rv_si (rv_si (rv_si (rv_si (rv_si (rv_si (rv_si (F.2.1 13709 117 rfl rfl)))))))))))))) ?_
    refine x_iload (x := 8) rfl rfl ?_
    refine x_iconst (v := (-1)) rfl ki_m1 ?_
    refine y_iast (N := 40) 8 rfl (sh_si (sh_si (sh_si (sh_si (sh_si (sh_si (sh_si (sh_si (sh_si (sh_si (sh_si (sh_si (sh_si (F.1 117 (100, 40) rfl rfl)))))))))))))) rfl (jinb_of (by decide)) (by decide) ?_
    refine x_iinc (x := 8) (v := 9) (ls' := [(4, .int 9), (0, .ref 107), (1, .int a1), (2, .int a2), (3, .int a3)]) rfl rfl (by decide) rfl rfl ?_
    refine x_goto (tgt := 32) rfl rfl ?_
    refine x_iload (x := 9) rfl rfl ?_
    refine x_bipush (v := 40) rfl kb_40 ?_
    refine x_icge (tgt := 53) rfl rfl (br_f (by decide) ?_)
    refine x_aloadn (x := 107) rfl rfl ?_
    refine x_getR (b := 117) 4 13 rfl f_4_44 rfl (congrArg Prod.fst (sh_si (sh_si (sh_si (sh_si (sh_si (sh_si (sh_si (sh_si (sh_si (sh_si (sh_si (sh_si (sh_si (sh_si (F.1 107 (4, 18) rfl rfl)))))))))))))))) (rv_si (rv_si (rv_si (rv_si (rv_si (rv_si (rv_si (rv_si (rv_si (rv_si (rv_si (rv_si (rv_si (rv_si (F.2.1 13709 117 rfl rfl))))))))))))))) ?_
    refine x_iload (x := 9) rfl rfl ?_
    refine x_iconst (v := (-1)) rfl ki_m1 ?_
    refine y_iast (N := 40) 9 rfl (sh_si (sh_si (sh_si (sh_si (sh_si (sh_si (sh_si (sh_si (sh_si (sh_si (sh_si (sh_si (sh_si (sh_si (F.1 117 (100, 40) rfl rfl))))))))))))))) rfl (jinb_of (by decide)) (by decide) ?_
    refine x_iinc (x := 9) (v := 10) (ls' := [(4, .int 10), (0, .ref 107), (1, .int a1), (2, .int a2), (3, .int a3)]) rfl rfl (by decide) rfl rfl ?_
    refine x_goto (tgt := 32) rfl rfl ?_
    refine x_iload (x := 10) rfl rfl ?_
    refine x_bipush (v := 40) rfl kb_40 ?_
    refine x_icge (tgt := 53) rfl rfl (br_f (by decide) ?_)
    refine x_aloadn (x := 107) rfl rfl ?_
    refine x_getR (b := 117) 4 13 rfl f_4_44 rfl (congrArg Prod.fst (sh_si (sh_si (sh_si (sh_si (sh_si (sh_si (sh_si (sh_si (sh_si (sh_si (sh_si (sh_si (sh_si (sh_si (sh_si (F.1 107 (4, 18) rfl rfl))))))))))))))))) (rv_si (rv_si (rv_si (rv_si (rv_si (rv_si (rv_si (rv_si (rv_si (rv_si (rv_si (rv_si (rv_si (rv_si (rv_si (F.2.1 13709 117 rfl rfl)))))))))))))))) ?_
    refine x_iload (x := 10) rfl rfl ?_
    refine x_iconst (v := (-1)) rfl ki_m1 ?_
    refine y_iast (N := 40) 10 rfl (sh_si (sh_si (sh_si (sh_si (sh_si (sh_si (sh_si (sh_si (sh_si (sh_si (sh_si (sh_si (sh_si (sh_si (sh_si (F.1 117 (100, 40) rfl rfl)))))))))))))))) rfl (jinb_of (by decide)) (by decide) ?_
    refine x_iinc (x := 10) (v := 11) (ls' := [(4, .int 11), (0, .ref 107), (1, .int a1), (2, .int a2), (3, .int a3)]) rfl rfl (by decide) rfl rfl ?_
    refine x_goto (tgt := 32) rfl rfl ?_
    refine x_iload (x := 11) rfl rfl ?_
    refine x_bipush (v := 40) rfl kb_40 ?_
    refine x_icge (tgt := 53) rfl rfl (br_f (by decide) ?_)
    refine x_aloadn (x := 107) rfl rfl ?_
    refine x_getR (b := 117) 4 13 rfl f_4_44 rfl (congrArg Prod.fst (sh_si (sh_si (sh_si (sh_si (sh_si (sh_si (sh_si (sh_si (sh_si (sh_si (sh_si (sh_si (sh_si (sh_si (sh_si (sh_si (F.1 107 (4, 18) rfl rfl)))))))))))))))))) (rv_si (rv_si (rv_si (rv_si (rv_si (rv_si (rv_si (rv_si (rv_si (rv_si (rv_si (rv_si (rv_si (rv_si (rv_si (rv_si (F.2.1 13709 117 rfl rfl))))))))))))))))) ?_
    refine x_iload (x := 11) rfl rfl ?_
    refine x_iconst (v := (-1)) rfl ki_m1 ?_
    refine y_iast (N := 40) 11 rfl (sh_si (sh_si (sh_si (sh_si (sh_si (sh_si (sh_si (sh_si (sh_si (sh_si (sh_si (sh_si (sh_si (sh_si (sh_si (sh_si (F.1 117 (100, 40) rfl rfl))))))))))))))))) rfl (jinb_of (by decide)) (by decide) ?_
    refine x_iinc (x := 11) (v := 12) (ls' := [(4, .int 12), (0, .ref 107), (1, .int a1), (2, .int a2), (3, .int a3)]) rfl rfl (by decide) rfl rfl ?_
    refine x_goto (tgt := 32) rfl rfl ?_
    refine x_iload (x := 12) rfl rfl ?_
    refine x_bipush (v := 40) rfl kb_40 ?_
    refine x_icge (tgt := 53) rfl rfl (br_f (by decide) ?_)
    refine x_aloadn (x := 107) rfl rfl ?_
    refine x_getR (b := 117) 4 13 rfl f_4_44 rfl (congrArg Prod.fst (sh_si (sh_si (sh_si (sh_si (sh_si (sh_si (sh_si (sh_si (sh_si (sh_si (sh_si (sh_si (sh_si (sh_si (sh_si (sh_si (sh_si (F.1 107 (4, 18) rfl rfl))))))))))))))))))) (rv_si (rv_si (rv_si (rv_si (rv_si (rv_si (rv_si (rv_si (rv_si (rv_si (rv_si (rv_si (rv_si (rv_si (rv_si (rv_si (rv_si (F.2.1 13709 117 rfl rfl)))))))))))))))))) ?_
    refine x_iload (x := 12) rfl rfl ?_
    refine x_iconst (v := (-1)) rfl ki_m1 ?_
    refine y_iast (N := 40) 12 rfl (sh_si (sh_si (sh_si (sh_si (sh_si (sh_si (sh_si (sh_si (sh_si (sh_si (sh_si (sh_si (sh_si (sh_si (sh_si (sh_si (sh_si (F.1 117 (100, 40) rfl rfl)))))))))))))))))) rfl (jinb_of (by decide)) (by decide) ?_
    refine x_iinc (x := 12) (v := 13) (ls' := [(4, .int 13), (0, .ref 107), (1, .int a1), (2, .int a2), (3, .int a3)]) rfl rfl (by decide) rfl rfl ?_
    refine x_goto (tgt := 32) rfl rfl ?_
    refine x_iload (x := 13) rfl rfl ?_
    refine x_bipush (v := 40) rfl kb_40 ?_
    refine x_icge (tgt := 53) rfl rfl (br_f (by decide) ?_)
    refine x_aloadn (x := 107) rfl rfl ?_
    refine x_getR (b := 117) 4 13 rfl f_4_44 rfl (congrArg Prod.fst (sh_si (sh_si (sh_si (sh_si (sh_si (sh_si (sh_si (sh_si (sh_si (sh_si (sh_si (sh_si (sh_si (sh_si (sh_si (sh_si (sh_si (sh_si (F.1 107 (4, 18) rfl rfl)))))))))))))))))))) (rv_si (rv_si (rv_si (rv_si (rv_si (rv_si (rv_si (rv_si (rv_si (rv_si (rv_si (rv_si (rv_si (rv_si (rv_si (rv_si (rv_si (rv_si (F.2.1 13709 117 rfl rfl))))))))))))))))))) ?_
    refine x_iload (x := 13) rfl rfl ?_
    refine x_iconst (v := (-1)) rfl ki_m1 ?_
    refine y_iast (N := 40) 13 rfl (sh_si (sh_si (sh_si (sh_si (sh_si (sh_si (sh_si (sh_si (sh_si (sh_si (sh_si (sh_si (sh_si (sh_si (sh_si (sh_si (sh_si (sh_si (F.1 117 (100, 40) rfl rfl))))))))))))))))))) rfl (jinb_of (by decide)) (by decide) ?_
    refine x_iinc (x := 13) (v := 14) (ls' := [(4, .int 14), (0, .ref 107), (1, .int a1), (2, .int a2), (3, .int a3)]) rfl rfl (by decide) rfl rfl ?_
    refine x_goto (tgt := 32) rfl rfl ?_
    refine x_iload (x := 14) rfl rfl ?_
    refine x_bipush (v := 40) rfl kb_40 ?_
    refine x_icge (tgt := 53) rfl rfl (br_f (by decide) ?_)
    refine x_aloadn (x := 107) rfl rfl ?_
    refine x_getR (b := 117) 4 13 rfl f_4_44 rfl (congrArg Prod.fst (sh_si (sh_si (sh_si (sh_si (sh_si (sh_si (sh_si (sh_si (sh_si (sh_si (sh_si (sh_si (sh_si (sh_si (sh_si (sh_si (sh_si (sh_si (sh_si (F.1 107 (4, 18) rfl rfl))))))))))))))))))))) (rv_si (rv_si (rv_si (rv_si (rv_si (rv_si (rv_si (rv_si (rv_si (rv_si (rv_si (rv_si (rv_si (rv_si (rv_si (rv_si (rv_si (rv_si (rv_si (F.2.1 13709 117 rfl rfl)))))))))))))))))))) ?_
    refine x_iload (x := 14) rfl rfl ?_
    refine x_iconst (v := (-1)) rfl ki_m1 ?_
    refine y_iast (N := 40) 14 rfl (sh_si (sh_si (sh_si (sh_si (sh_si (sh_si (sh_si (sh_si (sh_si (sh_si (sh_si (sh_si (sh_si (sh_si (sh_si (sh_si (sh_si (sh_si (sh_si (F.1 117 (100, 40) rfl rfl)))))))))))))))))))) rfl (jinb_of (by decide)) (by decide) ?_
    refine x_iinc (x := 14) (v := 15) (ls' := [(4, .int 15), (0, .ref 107), (1, .int a1), (2, .int a2), (3, .int a3)]) rfl rfl (by decide) rfl rfl ?_
    refine x_goto (tgt := 32) rfl rfl ?_
    refine x_iload (x := 15) rfl rfl ?_
    refine x_bipush (v := 40) rfl kb_40 ?_
    refine x_icge (tgt := 53) rfl rfl (br_f (by decide) ?_)
    refine x_aloadn (x := 107) rfl rfl ?_
    refine x_getR (b := 117) 4 13 rfl f_4_44 rfl (congrArg Prod.fst (sh_si (sh_si (sh_si (sh_si (sh_si (sh_si (sh_si (sh_si (sh_si (sh_si (sh_si (sh_si (sh_si (sh_si (sh_si (sh_si (sh_si (sh_si (sh_si (sh_si (F.1 107 (4, 18) rfl rfl)))))))))))))))))))))) (rv_si (rv_si (rv_si (rv_si (rv_si (rv_si (rv_si (rv_si (rv_si (rv_si (rv_si (rv_si (rv_si (rv_si (rv_si (rv_si (rv_si (rv_si (rv_si (rv_si (F.2.1 13709 117 rfl rfl))))))))))))))))))))) ?_
    refine x_iload (x := 15) rfl rfl ?_
    refine x_iconst (v := (-1)) rfl ki_m1 ?_
    refine y_iast (N := 40) 15 rfl (sh_si (sh_si (sh_si (sh_si (sh_si (sh_si (sh_si (sh_si (sh_si (sh_si (sh_si (sh_si (sh_si (sh_si (sh_si (sh_si (sh_si (sh_si (sh_si (sh_si (F.1 117 (100, 40) rfl rfl))))))))))))))))))))) rfl (jinb_of (by decide)) (by decide) ?_
    refine x_iinc (x := 15) (v := 16) (ls' := [(4, .int 16), (0, .ref 107), (1, .int a1), (2, .int a2), (3, .int a3)]) rfl rfl (by decide) rfl rfl ?_
    refine x_goto (tgt := 32) rfl rfl ?_
    refine x_iload (x := 16) rfl rfl ?_
    refine x_bipush (v := 40) rfl kb_40 ?_
    refine x_icge (tgt := 53) rfl rfl (br_f (by decide) ?_)
    refine x_aloadn (x := 107) rfl rfl ?_
    refine x_getR (b := 117) 4 13 rfl f_4_44 rfl (congrArg Prod.fst (sh_si (sh_si (sh_si (sh_si (sh_si (sh_si (sh_si (sh_si (sh_si (sh_si (sh_si (sh_si (sh_si (sh_si (sh_si (sh_si (sh_si (sh_si (sh_si (sh_si (sh_si (F.1 107 (4, 18) rfl rfl))))))))))))))))))))))) (rv_si (rv_si (rv_si (rv_si (rv_si (rv_si (rv_si (rv_si (rv_si (rv_si (rv_si (rv_si (rv_si (rv_si (rv_si (rv_si (rv_si (rv_si (rv_si (rv_si (rv_si (F.2.1 13709 117 rfl rfl)))))))))))))))))))))) ?_
    refine x_iload (x := 16) rfl rfl ?_
    refine x_iconst (v := (-1)) rfl ki_m1 ?_
    refine y_iast (N := 40) 16 rfl (sh_si (sh_si (sh_si (sh_si (sh_si (sh_si (sh_si (sh_si (sh_si (sh_si (sh_si (sh_si (sh_si (sh_si (sh_si (sh_si (sh_si (sh_si (sh_si (sh_si (sh_si (F.1 117 (100, 40) rfl rfl)))))))))))))))))))))) rfl (jinb_of (by decide)) (by decide) ?_
    refine x_iinc (x := 16) (v := 17) (ls' := [(4, .int 17), (0, .ref 107), (1, .int a1), (2, .int a2), (3, .int a3)]) rfl rfl (by decide) rfl rfl ?_
    refine x_goto (tgt := 32) rfl rfl ?_
    refine x_iload (x := 17) rfl rfl ?_
    refine x_bipush (v := 40) rfl kb_40 ?_
    refine x_icge (tgt := 53) rfl rfl (br_f (by decide) ?_)
    refine x_aloadn (x := 107) rfl rfl ?_
    refine x_getR (b := 117) 4 13 rfl f_4_44 rfl (congrArg Prod.fst (sh_si (sh_si (sh_si (sh_si (sh_si (sh_si (sh_si (sh_si (sh_si (sh_si (sh_si (sh_si (sh_si (sh_si (sh_si (sh_si (sh_si (sh_si (sh_si (sh_si (sh_si (sh_si (F.1 107 (4, 18) rfl rfl)))))))))))))))))))))))) (rv_si (rv_si (rv_si (rv_si (rv_si (rv_si (rv_si (rv_si (rv_si (rv_si (rv_si (rv_si (rv_si (rv_si (rv_si (rv_si (rv_si (rv_si (rv_si (rv_si (rv_si (rv_si (F.2.1 13709 117 rfl rfl))))))))))))))))))))))) ?_
    refine x_iload (x := 17) rfl rfl ?_
    refine x_iconst (v := (-1)) rfl ki_m1 ?_
    refine y_iast (N := 40) 17 rfl (sh_si (sh_si (sh_si (sh_si (sh_si (sh_si (sh_si (sh_si (sh_si (sh_si (sh_si (sh_si (sh_si (sh_si (sh_si (sh_si (sh_si (sh_si (sh_si (sh_si (sh_si (sh_si (F.1 117 (100, 40) rfl rfl))))))))))))))))))))))) rfl (jinb_of (by decide)) (by decide) ?_
    refine x_iinc (x := 17) (v := 18) (ls' := [(4, .int 18), (0, .ref 107), (1, .int a1), (2, .int a2), (3, .int a3)]) rfl rfl (by decide) rfl rfl ?_
    refine x_goto (tgt := 32) rfl rfl ?_
    refine x_iload (x := 18) rfl rfl ?_
    refine x_bipush (v := 40) rfl kb_40 ?_
    refine x_icge (tgt := 53) rfl rfl (br_f (by decide) ?_)
    refine x_aloadn (x := 107) rfl rfl ?_
    refine x_getR (b := 117) 4 13 rfl f_4_44 rfl (congrArg Prod.fst (sh_si (sh_si (sh_si (sh_si (sh_si (sh_si (sh_si (sh_si (sh_si (sh_si (sh_si (sh_si (sh_si (sh_si (sh_si (sh_si (sh_si (sh_si (sh_si (sh_si (sh_si (sh_si (sh_si (F.1 107 (4, 18) rfl rfl))))))))))))))))))))))))) (rv_si (rv_si (rv_si (rv_si (rv_si (rv_si (rv_si (rv_si (rv_si (rv_si (rv_si (rv_si (rv_si (rv_si (rv_si (rv_si (rv_si (rv_si (rv_si (rv_si (rv_si (rv_si (rv_si (F.2.1 13709 117 rfl rfl)))))))))))))))))))))))) ?_
    refine x_iload (x := 18) rfl rfl ?_
    refine x_iconst (v := (-1)) rfl ki_m1 ?_
    refine y_iast (N := 40) 18 rfl (sh_si (sh_si (sh_si (sh_si (sh_si (sh_si (sh_si (sh_si (sh_si (sh_si (sh_si (sh_si (sh_si (sh_si (sh_si (sh_si (sh_si (sh_si (sh_si (sh_si (sh_si (sh_si (sh_si (F.1 117 (100, 40) rfl rfl)))))))))))))))))))))))) rfl (jinb_of (by decide)) (by decide) ?_
    refine x_iinc (x := 18) (v := 19) (ls' := [(4, .int 19), (0, .ref 107), (1, .int a1), (2, .int a2), (3, .int a3)]) rfl rfl (by decide) rfl rfl ?_
    refine x_goto (tgt := 32) rfl rfl ?_
    refine x_iload (x := 19) rfl rfl ?_
    refine x_bipush (v := 40) rfl kb_40 ?_
    refine x_icge (tgt := 53) rfl rfl (br_f (by decide) ?_)
    refine x_aloadn (x := 107) rfl rfl ?_
    refine x_getR (b := 117) 4 13 rfl f_4_44 rfl (congrArg Prod.fst (sh_si (sh_si (sh_si (sh_si (sh_si (sh_si (sh_si (sh_si (sh_si (sh_si (sh_si (sh_si (sh_si (sh_si (sh_si (sh_si (sh_si (sh_si (sh_si (sh_si (sh_si (sh_si (sh_si (sh_si (F.1 107 (4, 18) rfl rfl)))))))))))))))))))))))))) (rv_si (rv_si (rv_si (rv_si (rv_si (rv_si (rv_si (rv_si (rv_si (rv_si (rv_si (rv_si (rv_si (rv_si (rv_si (rv_si (rv_si (rv_si (rv_si (rv_si (rv_si (rv_si (rv_si (rv_si (F.2.1 13709 117 rfl rfl))))))))))))))))))))))))) ?_
    refine x_iload (x := 19) rfl rfl ?_
    refine x_iconst (v := (-1)) rfl ki_m1 ?_
    refine y_iast (N := 40) 19 rfl (sh_si (sh_si (sh_si (sh_si (sh_si (sh_si (sh_si (sh_si (sh_si (sh_si (sh_si (sh_si (sh_si (sh_si (sh_si (sh_si (sh_si (sh_si (sh_si (sh_si (sh_si (sh_si (sh_si (sh_si (F.1 117 (100, 40) rfl rfl))))))))))))))))))))))))) rfl (jinb_of (by decide)) (by decide) ?_
    refine x_iinc (x := 19) (v := 20) (ls' := [(4, .int 20), (0, .ref 107), (1, .int a1), (2, .int a2), (3, .int a3)]) rfl rfl (by decide) rfl rfl ?_
    refine x_goto (tgt := 32) rfl rfl ?_
    refine x_iload (x := 20) rfl rfl ?_
    refine x_bipush (v := 40) rfl kb_40 ?_
    refine x_icge (tgt := 53) rfl rfl (br_f (by decide) ?_)
    refine x_aloadn (x := 107) rfl rfl ?_
    refine x_getR (b := 117) 4 13 rfl f_4_44 rfl (congrArg Prod.fst (sh_si (sh_si (sh_si (sh_si (sh_si (sh_si (sh_si (sh_si (sh_si (sh_si (sh_si (sh_si (sh_si (sh_si (sh_si (sh_si (sh_si (sh_si (sh_si (sh_si (sh_si (sh_si (sh_si (sh_si (sh_si (F.1 107 (4, 18) rfl rfl))))))))))))))))))))))))))) (rv_si (rv_si (rv_si (rv_si (rv_si (rv_si (rv_si (rv_si (rv_si (rv_si (rv_si (rv_si (rv_si (rv_si (rv_si (rv_si (rv_si (rv_si (rv_si (rv_si (rv_si (rv_si (rv_si (rv_si (rv_si (F.2.1 13709 117 rfl rfl)))))))))))))))))))))))))) ?_
    refine x_iload (x := 20) rfl rfl ?_
    refine x_iconst (v := (-1)) rfl ki_m1 ?_
    refine y_iast (N := 40) 20 rfl (sh_si (sh_si (sh_si (sh_si (sh_si (sh_si (sh_si (sh_si (sh_si (sh_si (sh_si (sh_si (sh_si (sh_si (sh_si (sh_si (sh_si (sh_si (sh_si (sh_si (sh_si (sh_si (sh_si (sh_si (sh_si (F.1 117 (100, 40) rfl rfl)))))))))))))))))))))))))) rfl (jinb_of (by decide)) (by decide) ?_
    refine x_iinc (x := 20) (v := 21) (ls' := [(4, .int 21), (0, .ref 107), (1, .int a1), (2, .int a2), (3, .int a3)]) rfl rfl (by decide) rfl rfl ?_
    refine x_goto (tgt := 32) rfl rfl ?_
    refine x_iload (x := 21) rfl rfl ?_
    refine x_bipush (v := 40) rfl kb_40 ?_
    refine x_icge (tgt := 53) rfl rfl (br_f (by decide) ?_)
    refine x_aloadn (x := 107) rfl rfl ?_
    refine x_getR (b := 117) 4 13 rfl f_4_44 rfl (congrArg Prod.fst (sh_si (sh_si (sh_si (sh_si (sh_si (sh_si (sh_si (sh_si (sh_si (sh_si (sh_si (sh_si (sh_si (sh_si (sh_si (sh_si (sh_si (sh_si (sh_si (sh_si (sh_si (sh_si (sh_si (sh_si (sh_si (sh_si (F.1 107 (4, 18) rfl rfl)))))))))))))))))))))))))))) (rv_si (rv_si (rv_si (rv_si (rv_si (rv_si (rv_si (rv_si (rv_si (rv_si (rv_si (rv_si (rv_si (rv_si (rv_si (rv_si (rv_si (rv_si (rv_si (rv_si (rv_si (rv_si (rv_si (rv_si (rv_si (rv_si (F.2.1 13709 117 rfl rfl))))))))))))))))))))))))))) ?_
    refine x_iload (x := 21) rfl rfl ?_
    refine x_iconst (v := (-1)) rfl ki_m1 ?_
    refine y_iast (N := 40) 21 rfl (sh_si (sh_si (sh_si (sh_si (sh_si (sh_si (sh_si (sh_si (sh_si (sh_si (sh_si (sh_si (sh_si (sh_si (sh_si (sh_si (sh_si (sh_si (sh_si (sh_si (sh_si (sh_si (sh_si (sh_si (sh_si (sh_si (F.1 117 (100, 40) rfl rfl))))))))))))))))))))))))))) rfl (jinb_of (by decide)) (by decide) ?_
    refine x_iinc (x := 21) (v := 22) (ls' := [(4, .int 22), (0, .ref 107), (1, .int a1), (2, .int a2), (3, .int a3)]) rfl rfl (by decide) rfl rfl ?_
    refine x_goto (tgt := 32) rfl rfl ?_
    refine x_iload (x := 22) rfl rfl ?_
    refine x_bipush (v := 40) rfl kb_40 ?_
    refine x_icge (tgt := 53) rfl rfl (br_f (by decide) ?_)
    refine x_aloadn (x := 107) rfl rfl ?_
    refine x_getR (b := 117) 4 13 rfl f_4_44 rfl (congrArg Prod.fst (sh_si (sh_si (sh_si (sh_si (sh_si (sh_si (sh_si (sh_si (sh_si (sh_si (sh_si (sh_si (sh_si (sh_si (sh_si (sh_si (sh_si (sh_si (sh_si (sh_si (sh_si (sh_si (sh_si (sh_si (sh_si (sh_si (sh_si (F.1 107 (4, 18) rfl rfl))))))))))))))))))))))))))))) (rv_si (rv_si (rv_si (rv_si (rv_si (rv_si (rv_si (rv_si (rv_si (rv_si (rv_si (rv_si (rv_si (rv_si (rv_si (rv_si (rv_si (rv_si (rv_si (rv_si (rv_si (rv_si (rv_si (rv_si (rv_si (rv_si (rv_si (F.2.1 13709 117 rfl rfl)))))))))))))))))))))))))))) ?_
    refine x_iload (x := 22) rfl rfl ?_
    refine x_iconst (v := (-1)) rfl ki_m1 ?_
    refine y_iast (N := 40) 22 rfl (sh_si (sh_si (sh_si (sh_si (sh_si (sh_si (sh_si (sh_si (sh_si (sh_si (sh_si (sh_si (sh_si (sh_si (sh_si (sh_si (sh_si (sh_si (sh_si (sh_si (sh_si (sh_si (sh_si (sh_si (sh_si (sh_si (sh_si (F.1 117 (100, 40) rfl rfl)))))))))))))))))))))))))))) rfl (jinb_of (by decide)) (by decide) ?_
    refine x_iinc (x := 22) (v := 23) (ls' := [(4, .int 23), (0, .ref 107), (1, .int a1), (2, .int a2), (3, .int a3)]) rfl rfl (by decide) rfl rfl ?_
    refine x_goto (tgt := 32) rfl rfl ?_
    refine x_iload (x := 23) rfl rfl ?_
    refine x_bipush (v := 40) rfl kb_40 ?_
    refine x_icge (tgt := 53) rfl rfl (br_f (by decide) ?_)
    refine x_aloadn (x := 107) rfl rfl ?_
    refine x_getR (b := 117) 4 13 rfl f_4_44 rfl (congrArg Prod.fst (sh_si (sh_si (sh_si (sh_si (sh_si (sh_si (sh_si (sh_si (sh_si (sh_si (sh_si (sh_si (sh_si (sh_si (sh_si (sh_si (sh_si (sh_si (sh_si (sh_si (sh_si (sh_si (sh_si (sh_si (sh_si (sh_si (sh_si (sh_si (F.1 107 (4, 18) rfl rfl)))))))))))))))))))))))))))))) (rv_si (rv_si (rv_si (rv_si (rv_si (rv_si (rv_si (rv_si (rv_si (rv_si (rv_si (rv_si (rv_si (rv_si (rv_si (rv_si (rv_si (rv_si (rv_si (rv_si (rv_si (rv_si (rv_si (rv_si (rv_si (rv_si (rv_si (rv_si (F.2.1 13709 117 rfl rfl))))))))))))))))))))))))))))) ?_
    refine x_iload (x := 23) rfl rfl ?_
    refine x_iconst (v := (-1)) rfl ki_m1 ?_
    refine y_iast (N := 40) 23 rfl (sh_si (sh_si (sh_si (sh_si (sh_si (sh_si (sh_si (sh_si (sh_si (sh_si (sh_si (sh_si (sh_si (sh_si (sh_si (sh_si (sh_si (sh_si (sh_si (sh_si (sh_si (sh_si (sh_si (sh_si (sh_si (sh_si (sh_si (sh_si (F.1 117 (100, 40) rfl rfl))))))))))))))))))))))))))))) rfl (jinb_of (by decide)) (by decide) ?_
    refine x_iinc (x := 23) (v := 24) (ls' := [(4, .int 24), (0, .ref 107), (1, .int a1), (2, .int a2), (3, .int a3)]) rfl rfl (by decide) rfl rfl ?_
    refine x_goto (tgt := 32) rfl rfl ?_
    refine x_iload (x := 24) rfl rfl ?_
    refine x_bipush (v := 40) rfl kb_40 ?_
    refine x_icge (tgt := 53) rfl rfl (br_f (by decide) ?_)
    refine x_aloadn (x := 107) rfl rfl ?_
    refine x_getR (b := 117) 4 13 rfl f_4_44 rfl (congrArg Prod.fst (sh_si (sh_si (sh_si (sh_si (sh_si (sh_si (sh_si (sh_si (sh_si (sh_si (sh_si (sh_si (sh_si (sh_si (sh_si (sh_si (sh_si (sh_si (sh_si (sh_si (sh_si (sh_si (sh_si (sh_si (sh_si (sh_si (sh_si (sh_si (sh_si (F.1 107 (4, 18) rfl rfl))))))))))))))))))))))))))))))) (rv_si (rv_si (rv_si (rv_si (rv_si (rv_si (rv_si (rv_si (rv_si (rv_si (rv_si (rv_si (rv_si (rv_si (rv_si (rv_si (rv_si (rv_si (rv_si (rv_si (rv_si (rv_si (rv_si (rv_si (rv_si (rv_si (rv_si (rv_si (rv_si (F.2.1 13709 117 rfl rfl)))))))))))))))))))))))))))))) ?_
    refine x_iload (x := 24) rfl rfl ?_
    refine x_iconst (v := (-1)) rfl ki_m1 ?_
    refine y_iast (N := 40) 24 rfl (sh_si (sh_si (sh_si (sh_si (sh_si (sh_si (sh_si (sh_si (sh_si (sh_si (sh_si (sh_si (sh_si (sh_si (sh_si (sh_si (sh_si (sh_si (sh_si (sh_si (sh_si (sh_si (sh_si (sh_si (sh_si (sh_si (sh_si (sh_si (sh_si (F.1 117 (100, 40) rfl rfl)))))))))))))))))))))))))))))) rfl (jinb_of (by decide)) (by decide) ?_
    refine x_iinc (x := 24) (v := 25) (ls' := [(4, .int 25), (0, .ref 107), (1, .int a1), (2, .int a2), (3, .int a3)]) rfl rfl (by decide) rfl rfl ?_
    refine x_goto (tgt := 32) rfl rfl ?_
    refine x_iload (x := 25) rfl rfl ?_
    refine x_bipush (v := 40) rfl kb_40 ?_
    refine x_icge (tgt := 53) rfl rfl (br_f (by decide) ?_)
    refine x_aloadn (x := 107) rfl rfl ?_
    refine x_getR (b := 117) 4 13 rfl f_4_44 rfl (congrArg Prod.fst (sh_si (sh_si (sh_si (sh_si (sh_si (sh_si (sh_si (sh_si (sh_si (sh_si (sh_si (sh_si (sh_si (sh_si (sh_si (sh_si (sh_si (sh_si (sh_si (sh_si (sh_si (sh_si (sh_si (sh_si (sh_si (sh_si (sh_si (sh_si (sh_si (sh_si (F.1 107 (4, 18) rfl rfl)))))))))))))))))))))))))))))))) (rv_si (rv_si (rv_si (rv_si (rv_si (rv_si (rv_si (rv_si (rv_si (rv_si (rv_si (rv_si (rv_si (rv_si (rv_si (rv_si (rv_si (rv_si (rv_si (rv_si (rv_si (rv_si (rv_si (rv_si (rv_si (rv_si (rv_si (rv_si (rv_si (rv_si (F.2.1 13709 117 rfl rfl))))))))))))))))))))))))))))))) ?_
    refine x_iload (x := 25) rfl rfl ?_
    refine x_iconst (v := (-1)) rfl ki_m1 ?_
    refine y_iast (N := 40) 25 rfl (sh_si (sh_si (sh_si (sh_si (sh_si (sh_si (sh_si (sh_si (sh_si (sh_si (sh_si (sh_si (sh_si (sh_si (sh_si (sh_si (sh_si (sh_si (sh_si (sh_si (sh_si (sh_si (sh_si (sh_si (sh_si (sh_si (sh_si (sh_si (sh_si (sh_si (F.1 117 (100, 40) rfl rfl))))))))))))))))))))))))))))))) rfl (jinb_of (by decide)) (by decide) ?_
    refine x_iinc (x := 25) (v := 26) (ls' := [(4, .int 26), (0, .ref 107), (1, .int a1), (2, .int a2), (3, .int a3)]) rfl rfl (by decide) rfl rfl ?_
    refine x_goto (tgt := 32) rfl rfl ?_
    refine x_iload (x := 26) rfl rfl ?_
    refine x_bipush (v := 40) rfl kb_40 ?_
    refine x_icge (tgt := 53) rfl rfl (br_f (by decide) ?_)
    refine x_aloadn (x := 107) rfl rfl ?_
    refine x_getR (b := 117) 4 13 rfl f_4_44 rfl (congrArg Prod.fst (sh_si (sh_si (sh_si (sh_si (sh_si (sh_si (sh_si (sh_si (sh_si (sh_si (sh_si (sh_si (sh_si (sh_si (sh_si (sh_si (sh_si (sh_si (sh_si (sh_si (sh_si (sh_si (sh_si (sh_si (sh_si (sh_si (sh_si (sh_si (sh_si (sh_si (sh_si (F.1 107 (4, 18) rfl rfl))))))))))))))))))))))))))))))))) (rv_si (rv_si (rv_si (rv_si (rv_si (rv_si (rv_si (rv_si (rv_si (rv_si (rv_si (rv_si (rv_si (rv_si (rv_si (rv_si (rv_si (rv_si (rv_si (rv_si (rv_si (rv_si (rv_si (rv_si (rv_si (rv_si (rv_si (rv_si (rv_si (rv_si (rv_si (F.2.1 13709 117 rfl rfl)))))))))))))))))))))))))))))))) ?_
    refine x_iload (x := 26) rfl rfl ?_
    refine x_iconst (v := (-1)) rfl ki_m1 ?_
    refine y_iast (N := 40) 26 rfl (sh_si (sh_si (sh_si (sh_si (sh_si (sh_si (sh_si (sh_si (sh_si (sh_si (sh_si (sh_si (sh_si (sh_si (sh_si (sh_si (sh_si (sh_si (sh_si (sh_si (sh_si (sh_si (sh_si (sh_si (sh_si (sh_si (sh_si (sh_si (sh_si (sh_si (sh_si (F.1 117 (100, 40) rfl rfl)))))))))))))))))))))))))))))))) rfl (jinb_of (by decide)) (by decide) ?_
    refine x_iinc (x := 26) (v := 27) (ls' := [(4, .int 27), (0, .ref 107), (1, .int a1), (2, .int a2), (3, .int a3)]) rfl rfl (by decide) rfl rfl ?_
    refine x_goto (tgt := 32) rfl rfl ?_
    refine x_iload (x := 27) rfl rfl ?_
    refine x_bipush (v := 40) rfl kb_40 ?_
    refine x_icge (tgt := 53) rfl rfl (br_f (by decide) ?_)
    refine x_aloadn (x := 107) rfl rfl ?_
    refine x_getR (b := 117) 4 13 rfl f_4_44 rfl (congrArg Prod.fst (sh_si (sh_si (sh_si (sh_si (sh_si (sh_si (sh_si (sh_si (sh_si (sh_si (sh_si (sh_si (sh_si (sh_si (sh_si (sh_si (sh_si (sh_si (sh_si (sh_si (sh_si (sh_si (sh_si (sh_si (sh_si (sh_si (sh_si (sh_si (sh_si (sh_si (sh_si (sh_si (F.1 107 (4, 18) rfl rfl)))))))))))))))))))))))))))))))))) (rv_si (rv_si (rv_si (rv_si (rv_si (rv_si (rv_si (rv_si (rv_si (rv_si (rv_si (rv_si (rv_si (rv_si (rv_si (rv_si (rv_si (rv_si (rv_si (rv_si (rv_si (rv_si (rv_si (rv_si (rv_si (rv_si (rv_si (rv_si (rv_si (rv_si (rv_si (rv_si (F.2.1 13709 117 rfl rfl))))))))))))))))))))))))))))))))) ?_
    refine x_iload (x := 27) rfl rfl ?_
    refine x_iconst (v := (-1)) rfl ki_m1 ?_
    refine y_iast (N := 40) 27 rfl (sh_si (sh_si (sh_si (sh_si (sh_si (sh_si (sh_si (sh_si (sh_si (sh_si (sh_si (sh_si (sh_si (sh_si (sh_si (sh_si (sh_si (sh_si (sh_si (sh_si (sh_si (sh_si (sh_si (sh_si (sh_si (sh_si (sh_si (sh_si (sh_si (sh_si (sh_si (sh_si (F.1 117 (100, 40) rfl rfl))))))))))))))))))))))))))))))))) rfl (jinb_of (by decide)) (by decide) ?_
    refine x_iinc (x := 27) (v := 28) (ls' := [(4, .int 28), (0, .ref 107), (1, .int a1), (2, .int a2), (3, .int a3)]) rfl rfl (by decide) rfl rfl ?_
    refine x_goto (tgt := 32) rfl rfl ?_
    refine x_iload (x := 28) rfl rfl ?_
    refine x_bipush (v := 40) rfl kb_40 ?_
    refine x_icge (tgt := 53) rfl rfl (br_f (by decide) ?_)
    refine x_aloadn (x := 107) rfl rfl ?_
    refine x_getR (b := 117) 4 13 rfl f_4_44 rfl (congrArg Prod.fst (sh_si (sh_si (sh_si (sh_si (sh_si (sh_si (sh_si (sh_si (sh_si (sh_si (sh_si (sh_si (sh_si (sh_si (sh_si (sh_si (sh_si (sh_si (sh_si (sh_si (sh_si (sh_si (sh_si (sh_si (sh_si (sh_si (sh_si (sh_si (sh_si (sh_si (sh_si (sh_si (sh_si (F.1 107 (4, 18) rfl rfl))))))))))))))))))))))))))))))))))) (rv_si (rv_si (rv_si (rv_si (rv_si (rv_si (rv_si (rv_si (rv_si (rv_si (rv_si (rv_si (rv_si (rv_si (rv_si (rv_si (rv_si (rv_si (rv_si (rv_si (rv_si (rv_si (rv_si (rv_si (rv_si (rv_si (rv_si (rv_si (rv_si (rv_si (rv_si (rv_si (rv_si (F.2.1 13709 117 rfl rfl)))))))))))))))))))))))))))))))))) ?_
    refine x_iload (x := 28) rfl rfl ?_
    refine x_iconst (v := (-1)) rfl ki_m1 ?_
    refine y_iast (N := 40) 28 rfl (sh_si (sh_si (sh_si (sh_si (sh_si (sh_si (sh_si (sh_si (sh_si (sh_si (sh_si (sh_si (sh_si (sh_si (sh_si (sh_si (sh_si (sh_si (sh_si (sh_si (sh_si (sh_si (sh_si (sh_si (sh_si (sh_si (sh_si (sh_si (sh_si (sh_si (sh_si (sh_si (sh_si (F.1 117 (100, 40) rfl rfl)))))))))))))))))))))))))))))))))) rfl (jinb_of (by decide)) (by decide) ?_
    refine x_iinc (x := 28) (v := 29) (ls' := [(4, .int 29), (0, .ref 107), (1, .int a1), (2, .int a2), (3, .int a3)]) rfl rfl (by decide) rfl rfl ?_
    refine x_goto (tgt := 32) rfl rfl ?_
    refine x_iload (x := 29) rfl rfl ?_
    refine x_bipush (v := 40) rfl kb_40 ?_
    refine x_icge (tgt := 53) rfl rfl (br_f (by decide) ?_)
    refine x_aloadn (x := 107) rfl rfl ?_
    refine x_getR (b := 117) 4 13 rfl f_4_44 rfl (congrArg Prod.fst (sh_si (sh_si (sh_si (sh_si (sh_si (sh_si (sh_si (sh_si (sh_si (sh_si (sh_si (sh_si (sh_si (sh_si (sh_si (sh_si (sh_si (sh_si (sh_si (sh_si (sh_si (sh_si (sh_si (sh_si (sh_si (sh_si (sh_si (sh_si (sh_si (sh_si (sh_si (sh_si (sh_si (sh_si (F.1 107 (4, 18) rfl rfl)))))))))))))))))))))))))))))))))))) (rv_si (rv_si (rv_si (rv_si (rv_si (rv_si (rv_si (rv_si (rv_si (rv_si (rv_si (rv_si (rv_si (rv_si (rv_si (rv_si (rv_si (rv_si (rv_si (rv_si (rv_si (rv_si (rv_si (rv_si (rv_si (rv_si (rv_si (rv_si (rv_si (rv_si (rv_si (rv_si (rv_si (rv_si (F.2.1 13709 117 rfl rfl))))))))))))))))))))))))))))))))))) ?_
    refine x_iload (x := 29) rfl rfl ?_
    refine x_iconst (v := (-1)) rfl ki_m1 ?_
    refine y_iast (N := 40) 29 rfl (sh_si (sh_si (sh_si (sh_si (sh_si (sh_si (sh_si (sh_si (sh_si (sh_si (sh_si (sh_si (sh_si (sh_si (sh_si (sh_si (sh_si (sh_si (sh_si (sh_si (sh_si (sh_si (sh_si (sh_si (sh_si (sh_si (sh_si (sh_si (sh_si (sh_si (sh_si (sh_si (sh_si (sh_si (F.1 117 (100, 40) rfl rfl))))))))))))))))))))))))))))))))))) rfl (jinb_of (by decide)) (by decide) ?_
    refine x_iinc (x := 29) (v := 30) (ls' := [(4, .int 30), (0, .ref 107), (1, .int a1), (2, .int a2), (3, .int a3)]) rfl rfl (by decide) rfl rfl ?_
    refine x_goto (tgt := 32) rfl rfl ?_
    refine x_iload (x := 30) rfl rfl ?_
    refine x_bipush (v := 40) rfl kb_40 ?_
    refine x_icge (tgt := 53) rfl rfl (br_f (by decide) ?_)
    refine x_aloadn (x := 107) rfl rfl ?_
    refine x_getR (b := 117) 4 13 rfl f_4_44 rfl (congrArg Prod.fst (sh_si (sh_si (sh_si (sh_si (sh_si (sh_si (sh_si (sh_si (sh_si (sh_si (sh_si (sh_si (sh_si (sh_si (sh_si (sh_si (sh_si (sh_si (sh_si (sh_si (sh_si (sh_si (sh_si (sh_si (sh_si (sh_si (sh_si (sh_si (sh_si (sh_si (sh_si (sh_si (sh_si (sh_si (sh_si (F.1 107 (4, 18) rfl rfl))))))))))))))))))))))))))))))))))))) (rv_si (rv_si (rv_si (rv_si (rv_si (rv_si (rv_si (rv_si (rv_si (rv_si (rv_si (rv_si (rv_si (rv_si (rv_si (rv_si (rv_si (rv_si (rv_si (rv_si (rv_si (rv_si (rv_si (rv_si (rv_si (rv_si (rv_si (rv_si (rv_si (rv_si (rv_si (rv_si (rv_si (rv_si (rv_si (F.2.1 13709 117 rfl rfl)))))))))))))))))))))))))))))))))))) ?_
    refine x_iload (x := 30) rfl rfl ?_
    refine x_iconst (v := (-1)) rfl ki_m1 ?_
    refine y_iast (N := 40) 30 rfl (sh_si (sh_si (sh_si (sh_si (sh_si (sh_si (sh_si (sh_si (sh_si (sh_si (sh_si (sh_si (sh_si (sh_si (sh_si (sh_si (sh_si (sh_si (sh_si (sh_si (sh_si (sh_si (sh_si (sh_si (sh_si (sh_si (sh_si (sh_si (sh_si (sh_si (sh_si (sh_si (sh_si (sh_si (sh_si (F.1 117 (100, 40) rfl rfl)))))))))))))))))))))))))))))))))))) rfl (jinb_of (by decide)) (by decide) ?_
    refine x_iinc (x := 30) (v := 31) (ls' := [(4, .int 31), (0, .ref 107), (1, .int a1), (2, .int a2), (3, .int a3)]) rfl rfl (by decide) rfl rfl ?_
    refine x_goto (tgt := 32) rfl rfl ?_
    refine x_iload (x := 31) rfl rfl ?_
    refine x_bipush (v := 40) rfl kb_40 ?_
    refine x_icge (tgt := 53) rfl rfl (br_f (by decide) ?_)
    refine x_aloadn (x := 107) rfl rfl ?_
    refine x_getR (b := 117) 4 13 rfl f_4_44 rfl (congrArg Prod.fst (sh_si (sh_si (sh_si (sh_si (sh_si (sh_si (sh_si (sh_si (sh_si (sh_si (sh_si (sh_si (sh_si (sh_si (sh_si (sh_si (sh_si (sh_si (sh_si (sh_si (sh_si (sh_si (sh_si (sh_si (sh_si (sh_si (sh_si (sh_si (sh_si (sh_si (sh_si (sh_si (sh_si (sh_si (sh_si (sh_si (F.1 107 (4, 18) rfl rfl)))))))))))))))))))))))))))))))))))))) (rv_si (rv_si (rv_si (rv_si (rv_si (rv_si (rv_si (rv_si (rv_si (rv_si (rv_si (rv_si (rv_si (rv_si (rv_si (rv_si (rv_si (rv_si (rv_si (rv_si (rv_si (rv_si (rv_si (rv_si (rv_si (rv_si (rv_si (rv_si (rv_si (rv_si (rv_si (rv_si (rv_si (rv_si (rv_si (rv_si (F.2.1 13709 117 rfl rfl))))))))))))))))))))))))))))))))))))) ?_
    refine x_iload (x := 31) rfl rfl ?_
    refine x_iconst (v := (-1)) rfl ki_m1 ?_
    refine y_iast (N := 40) 31 rfl (sh_si (sh_si (sh_si (sh_si (sh_si (sh_si (sh_si (sh_si (sh_si (sh_si (sh_si (sh_si (sh_si (sh_si (sh_si (sh_si (sh_si (sh_si (sh_si (sh_si (sh_si (sh_si (sh_si (sh_si (sh_si (sh_si (sh_si (sh_si (sh_si (sh_si (sh_si (sh_si (sh_si (sh_si (sh_si (sh_si (F.1 117 (100, 40) rfl rfl))))))))))))))))))))))))))))))))))))) rfl (jinb_of (by decide)) (by decide) ?_
    refine x_iinc (x := 31) (v := 32) (ls' := [(4, .int 32), (0, .ref 107), (1, .int a1), (2, .int a2), (3, .int a3)]) rfl rfl (by decide) rfl rfl ?_
    refine x_goto (tgt := 32) rfl rfl ?_
    refine x_iload (x := 32) rfl rfl ?_
    refine x_bipush (v := 40) rfl kb_40 ?_
    refine x_icge (tgt := 53) rfl rfl (br_f (by decide) ?_)
    refine x_aloadn (x := 107) rfl rfl ?_
    refine x_getR (b := 117) 4 13 rfl f_4_44 rfl (congrArg Prod.fst (sh_si (sh_si (sh_si (sh_si (sh_si (sh_si (sh_si (sh_si (sh_si (sh_si (sh_si (sh_si (sh_si (sh_si (sh_si (sh_si (sh_si (sh_si (sh_si (sh_si (sh_si (sh_si (sh_si (sh_si (sh_si (sh_si (sh_si (sh_si (sh_si (sh_si (sh_si (sh_si (sh_si (sh_si (sh_si (sh_si (sh_si (F.1 107 (4, 18) rfl rfl))))))))))))))))))))))))))))))))))))))) (rv_si (rv_si (rv_si (rv_si (rv_si (rv_si (rv_si (rv_si (rv_si (rv_si (rv_si (rv_si (rv_si (rv_si (rv_si (rv_si (rv_si (rv_si (rv_si (rv_si (rv_si (rv_si (rv_si (rv_si (rv_si (rv_si (rv_si (rv_si (rv_si (rv_si (rv_si (rv_si (rv_si (rv_si (rv_si (rv_si (rv_si (F.2.1 13709 117 rfl rfl)))))))))))))))))))))))))))))))))))))) ?_
    refine x_iload (x := 32) rfl rfl ?_
    refine x_iconst (v := (-1)) rfl ki_m1 ?_
    refine y_iast (N := 40) 32 rfl (sh_si (sh_si (sh_si (sh_si (sh_si (sh_si (sh_si (sh_si (sh_si (sh_si (sh_si (sh_si (sh_si (sh_si (sh_si (sh_si (sh_si (sh_si (sh_si (sh_si (sh_si (sh_si (sh_si (sh_si (sh_si (sh_si (sh_si (sh_si (sh_si (sh_si (sh_si (sh_si (sh_si (sh_si (sh_si (sh_si (sh_si (F.1 117 (100, 40) rfl rfl)))))))))))))))))))))))))))))))))))))) rfl (jinb_of (by decide)) (by decide) ?_
    refine x_iinc (x := 32) (v := 33) (ls' := [(4, .int 33), (0, .ref 107), (1, .int a1), (2, .int a2), (3, .int a3)]) rfl rfl (by decide) rfl rfl ?_
    refine x_goto (tgt := 32) rfl rfl ?_
    refine x_iload (x := 33) rfl rfl ?_
    refine x_bipush (v := 40) rfl kb_40 ?_
    refine x_icge (tgt := 53) rfl rfl (br_f (by decide) ?_)
    refine x_aloadn (x := 107) rfl rfl ?_
    refine x_getR (b := 117) 4 13 rfl f_4_44 rfl (congrArg Prod.fst (sh_si (sh_si (sh_si (sh_si (sh_si (sh_si (sh_si (sh_si (sh_si (sh_si (sh_si (sh_si (sh_si (sh_si (sh_si (sh_si (sh_si (sh_si (sh_si (sh_si (sh_si (sh_si (sh_si (sh_si (sh_si (sh_si (sh_si (sh_si (sh_si (sh_si (sh_si (sh_si (sh_si (sh_si (sh_si (sh_si (sh_si (sh_si (F.1 107 (4, 18) rfl rfl)))))))))))))))))))))))))))))))))))))))) (rv_si (rv_si (rv_si (rv_si (rv_si (rv_si (rv_si (rv_si (rv_si (rv_si (rv_si (rv_si (rv_si (rv_si (rv_si (rv_si (rv_si (rv_si (rv_si (rv_si (rv_si (rv_si (rv_si (rv_si (rv_si (rv_si (rv_si (rv_si (rv_si (rv_si (rv_si (rv_si (rv_si (rv_si (rv_si (rv_si (rv_si (rv_si (F.2.1 13709 117 rfl rfl))))))))))))))))))))))))))))))))))))))) ?_
    refine x_iload (x := 33) rfl rfl ?_
    refine x_iconst (v := (-1)) rfl ki_m1 ?_
    refine y_iast (N := 40) 33 rfl (sh_si (sh_si (sh_si (sh_si (sh_si (sh_si (sh_si (sh_si (sh_si (sh_si (sh_si (sh_si (sh_si (sh_si (sh_si (sh_si (sh_si (sh_si (sh_si (sh_si (sh_si (sh_si (sh_si (sh_si (sh_si (sh_si (sh_si (sh_si (sh_si (sh_si (sh_si (sh_si (sh_si (sh_si (sh_si (sh_si (sh_si (sh_si (F.1 117 (100, 40) rfl rfl))))))))))))))))))))))))))))))))))))))) rfl (jinb_of (by decide)) (by decide) ?_
    refine x_iinc (x := 33) (v := 34) (ls' := [(4, .int 34), (0, .ref 107), (1, .int a1), (2, .int a2), (3, .int a3)]) rfl rfl (by decide) rfl rfl ?_
    refine x_goto (tgt := 32) rfl rfl ?_
    refine x_iload (x := 34) rfl rfl ?_
    refine x_bipush (v := 40) rfl kb_40 ?_
    refine x_icge (tgt := 53) rfl rfl (br_f (by decide) ?_)
    refine x_aloadn (x := 107) rfl rfl ?_
    refine x_getR (b := 117) 4 13 rfl f_4_44 rfl (congrArg Prod.fst (sh_si (sh_si (sh_si (sh_si (sh_si (sh_si (sh_si (sh_si (sh_si (sh_si (sh_si (sh_si (sh_si (sh_si (sh_si (sh_si (sh_si (sh_si (sh_si (sh_si (sh_si (sh_si (sh_si (sh_si (sh_si (sh_si (sh_si (sh_si (sh_si (sh_si (sh_si (sh_si (sh_si (sh_si (sh_si (sh_si (sh_si (sh_si (sh_si (F.1 107 (4, 18) rfl rfl))))))))))))))))))))))))))))))))))))))))) (rv_si (rv_si (rv_si (rv_si (rv_si (rv_si (rv_si (rv_si (rv_si (rv_si (rv_si (rv_si (rv_si (rv_si (rv_si (rv_si (rv_si (rv_si (rv_si (rv_si (rv_si (rv_si (rv_si (rv_si (rv_si (rv_si (rv_si (rv_si (rv_si (rv_si (rv_si (rv_si (rv_si (rv_si (rv_si (rv_si (rv_si (rv_si (rv_si (F.2.1 13709 117 rfl rfl)))))))))))))))))))))))))))))))))))))))) ?_
    refine x_iload (x := 34) rfl rfl ?_
    refine x_iconst (v := (-1)) rfl ki_m1 ?_
    refine y_iast (N := 40) 34 rfl (sh_si (sh_si (sh_si (sh_si (sh_si (sh_si (sh_si (sh_si (sh_si (sh_si (sh_si (sh_si (sh_si (sh_si (sh_si (sh_si (sh_si (sh_si (sh_si (sh_si (sh_si (sh_si (sh_si (sh_si (sh_si (sh_si (sh_si (sh_si (sh_si (sh_si (sh_si (sh_si (sh_si (sh_si (sh_si (sh_si (sh_si (sh_si (sh_si (F.1 117 (100, 40) rfl rfl)))))))))))))))))))))))))))))))))))))))) rfl (jinb_of (by decide)) (by decide) ?_
    refine x_iinc (x := 34) (v := 35) (ls' := [(4, .int 35), (0, .ref 107), (1, .int a1), (2, .int a2), (3, .int a3)]) rfl rfl (by decide) rfl rfl ?_
    refine x_goto (tgt := 32) rfl rfl ?_
    refine x_iload (x := 35) rfl rfl ?_
    refine x_bipush (v := 40) rfl kb_40 ?_
    refine x_icge (tgt := 53) rfl rfl (br_f (by decide) ?_)
    refine x_aloadn (x := 107) rfl rfl ?_
    refine x_getR (b := 117) 4 13 rfl f_4_44 rfl (congrArg Prod.fst (sh_si (sh_si (sh_si (sh_si (sh_si (sh_si (sh_si (sh_si (sh_si (sh_si (sh_si (sh_si (sh_si (sh_si (sh_si (sh_si (sh_si (sh_si (sh_si (sh_si (sh_si (sh_si (sh_si (sh_si (sh_si (sh_si (sh_si (sh_si (sh_si (sh_si (sh_si (sh_si (sh_si (sh_si (sh_si (sh_si (sh_si (sh_si (sh_si (sh_si (F.1 107 (4, 18) rfl rfl)))))))))))))))))))))))))))))))))))))))))) (rv_si (rv_si (rv_si (rv_si (rv_si (rv_si (rv_si (rv_si (rv_si (rv_si (rv_si (rv_si (rv_si (rv_si (rv_si (rv_si (rv_si (rv_si (rv_si (rv_si (rv_si (rv_si (rv_si (rv_si (rv_si (rv_si (rv_si (rv_si (rv_si (rv_si (rv_si (rv_si (rv_si (rv_si (rv_si (rv_si (rv_si (rv_si (rv_si (rv_si (F.2.1 13709 117 rfl rfl))))))))))))))))))))))))))))))))))))))))) ?_
    refine x_iload (x := 35) rfl rfl ?_
    refine x_iconst (v := (-1)) rfl ki_m1 ?_
    refine y_iast (N := 40) 35 rfl (sh_si (sh_si (sh_si (sh_si (sh_si (sh_si (sh_si (sh_si (sh_si (sh_si (sh_si (sh_si (sh_si (sh_si (sh_si (sh_si (sh_si (sh_si (sh_si (sh_si (sh_si (sh_si (sh_si (sh_si (sh_si (sh_si (sh_si (sh_si (sh_si (sh_si (sh_si (sh_si (sh_si (sh_si (sh_si (sh_si (sh_si (sh_si (sh_si (sh_si (F.1 117 (100, 40) rfl rfl))))))))))))))))))))))))))))))))))))))))) rfl (jinb_of (by decide)) (by decide) ?_
    refine x_iinc (x := 35) (v := 36) (ls' := [(4, .int 36), (0, .ref 107), (1, .int a1), (2, .int a2), (3, .int a3)]) rfl rfl (by decide) rfl rfl ?_
    refine x_goto (tgt := 32) rfl rfl ?_
    refine x_iload (x := 36) rfl rfl ?_
    refine x_bipush (v := 40) rfl kb_40 ?_
    refine x_icge (tgt := 53) rfl rfl (br_f (by decide) ?_)
    refine x_aloadn (x := 107) rfl rfl ?_
    refine x_getR (b := 117) 4 13 rfl f_4_44 rfl (congrArg Prod.fst (sh_si (sh_si (sh_si (sh_si (sh_si (sh_si (sh_si (sh_si (sh_si (sh_si (sh_si (sh_si (sh_si (sh_si (sh_si (sh_si (sh_si (sh_si (sh_si (sh_si (sh_si (sh_si (sh_si (sh_si (sh_si (sh_si (sh_si (sh_si (sh_si (sh_si (sh_si (sh_si (sh_si (sh_si (sh_si (sh_si (sh_si (sh_si (sh_si (sh_si (sh_si (F.1 107 (4, 18) rfl rfl))))))))))))))))))))))))))))))))))))))))))) (rv_si (rv_si (rv_si (rv_si (rv_si (rv_si (rv_si (rv_si (rv_si (rv_si (rv_si (rv_si (rv_si (rv_si (rv_si (rv_si (rv_si (rv_si (rv_si (rv_si (rv_si (rv_si (rv_si (rv_si (rv_si (rv_si (rv_si (rv_si (rv_si (rv_si (rv_si (rv_si (rv_si (rv_si (rv_si (rv_si (rv_si (rv_si (rv_si (rv_si (rv_si (F.2.1 13709 117 rfl rfl)))))))))))))))))))))))))))))))))))))))))) ?_
    refine x_iload (x := 36) rfl rfl ?_
    refine x_iconst (v := (-1)) rfl ki_m1 ?_
    refine y_iast (N := 40) 36 rfl (sh_si (sh_si (sh_si (sh_si (sh_si (sh_si (sh_si (sh_si (sh_si (sh_si (sh_si (sh_si (sh_si (sh_si (sh_si (sh_si (sh_si (sh_si (sh_si (sh_si (sh_si (sh_si (sh_si (sh_si (sh_si (sh_si (sh_si (sh_si (sh_si (sh_si (sh_si (sh_si (sh_si (sh_si (sh_si (sh_si (sh_si (sh_si (sh_si (sh_si (sh_si (F.1 117 (100, 40) rfl rfl)))))))))))))))))))))))))))))))))))))))))) rfl (jinb_of (by decide)) (by decide) ?_
    refine x_iinc (x := 36) (v := 37) (ls' := [(4, .int 37), (0, .ref 107), (1, .int a1), (2, .int a2), (3, .int a3)]) rfl rfl (by decide) rfl rfl ?_
    refine x_goto (tgt := 32) rfl rfl ?_
    refine x_iload (x := 37) rfl rfl ?_
    refine x_bipush (v := 40) rfl kb_40 ?_
    refine x_icge (tgt := 53) rfl rfl (br_f (by decide) ?_)
    refine x_aloadn (x := 107) rfl rfl ?_
    refine x_getR (b := 117) 4 13 rfl f_4_44 rfl (congrArg Prod.fst (sh_si (sh_si (sh_si (sh_si (sh_si (sh_si (sh_si (sh_si (sh_si (sh_si (sh_si (sh_si (sh_si (sh_si (sh_si (sh_si (sh_si (sh_si (sh_si (sh_si (sh_si (sh_si (sh_si (sh_si (sh_si (sh_si (sh_si (sh_si (sh_si (sh_si (sh_si (sh_si (sh_si (sh_si (sh_si (sh_si (sh_si (sh_si (sh_si (sh_si (sh_si (sh_si (F.1 107 (4, 18) rfl rfl)))))))))))))))))))))))))))))))))))))))))))) (rv_si (rv_si (rv_si (rv_si (rv_si (rv_si (rv_si (rv_si (rv_si (rv_si (rv_si (rv_si (rv_si (rv_si (rv_si (rv_si (rv_si (rv_si (rv_si (rv_si (rv_si (rv_si (rv_si (rv_si (rv_si (rv_si (rv_si (rv_si (rv_si (rv_si (rv_si (rv_si (rv_si (rv_si (rv_si (rv_si (rv_si (rv_si (rv_si (rv_si (rv_si (rv_si (F.2.1 13709 117 rfl rfl))))))))))))))))))))))))))))))))))))))))))) ?_
    refine x_iload (x := 37) rfl rfl ?_
    refine x_iconst (v := (-1)) rfl ki_m1 ?_
    refine y_iast (N := 40) 37 rfl (sh_si (sh_si (sh_si (sh_si (sh_si (sh_si (sh_si (sh_si (sh_si (sh_si (sh_si (sh_si (sh_si (sh_si (sh_si (sh_si (sh_si (sh_si (sh_si (sh_si (sh_si (sh_si (sh_si (sh_si (sh_si (sh_si (sh_si (sh_si (sh_si (sh_si (sh_si (sh_si (sh_si (sh_si (sh_si (sh_si (sh_si (sh_si (sh_si (sh_si (sh_si (sh_si (F.1 117 (100, 40) rfl rfl))))))))))))))))))))))))))))))))))))))))))) rfl (jinb_of (by decide)) (by decide) ?_
    refine x_iinc (x := 37) (v := 38) (ls' := [(4, .int 38), (0, .ref 107), (1, .int a1), (2, .int a2), (3, .int a3)]) rfl rfl (by decide) rfl rfl ?_
    refine x_goto (tgt := 32) rfl rfl ?_
    refine x_iload (x := 38) rfl rfl ?_
    refine x_bipush (v := 40) rfl kb_40 ?_
    refine x_icge (tgt := 53) rfl rfl (br_f (by decide) ?_)
    refine x_aloadn (x := 107) rfl rfl ?_
    refine x_getR (b := 117) 4 13 rfl f_4_44 rfl (congrArg Prod.fst (sh_si (sh_si (sh_si (sh_si (sh_si (sh_si (sh_si (sh_si (sh_si (sh_si (sh_si (sh_si (sh_si (sh_si (sh_si (sh_si (sh_si (sh_si (sh_si (sh_si (sh_si (sh_si (sh_si (sh_si (sh_si (sh_si (sh_si (sh_si (sh_si (sh_si (sh_si (sh_si (sh_si (sh_si (sh_si (sh_si (sh_si (sh_si (sh_si (sh_si (sh_si (sh_si (sh_si (F.1 107 (4, 18) rfl rfl))))))))))))))))))))))))))))))))))))))))))))) (rv_si (rv_si (rv_si (rv_si (rv_si (rv_si (rv_si (rv_si (rv_si (rv_si (rv_si (rv_si (rv_si (rv_si (rv_si (rv_si (rv_si (rv_si (rv_si (rv_si (rv_si (rv_si (rv_si (rv_si (rv_si (rv_si (rv_si (rv_si (rv_si (rv_si (rv_si (rv_si (rv_si (rv_si (rv_si (rv_si (rv_si (rv_si (rv_si (rv_si (rv_si (rv_si (rv_si (F.2.1 13709 117 rfl rfl)))))))))))))))))))))))))))))))))))))))))))) ?_
    refine x_iload (x := 38) rfl rfl ?_
    refine x_iconst (v := (-1)) rfl ki_m1 ?_
    refine y_iast (N := 40) 38 rfl (sh_si (sh_si (sh_si (sh_si (sh_si (sh_si (sh_si (sh_si (sh_si (sh_si (sh_si (sh_si (sh_si (sh_si (sh_si (sh_si (sh_si (sh_si (sh_si (sh_si (sh_si (sh_si (sh_si (sh_si (sh_si (sh_si (sh_si (sh_si (sh_si (sh_si (sh_si (sh_si (sh_si (sh_si (sh_si (sh_si (sh_si (sh_si (sh_si (sh_si (sh_si (sh_si (sh_si (F.1 117 (100, 40) rfl rfl)))))))))))))))))))))))))))))))))))))))))))) rfl (jinb_of (by decide)) (by decide) ?_
    refine x_iinc (x := 38) (v := 39) (ls' := [(4, .int 39), (0, .ref 107), (1, .int a1), (2, .int a2), (3, .int a3)]) rfl rfl (by decide) rfl rfl ?_
    refine x_goto (tgt := 32) rfl rfl ?_
    refine x_iload (x := 39) rfl rfl ?_
    refine x_bipush (v := 40) rfl kb_40 ?_
    refine x_icge (tgt := 53) rfl rfl (br_f (by decide) ?_)
    refine x_aloadn (x := 107) rfl rfl ?_
    refine x_getR (b := 117) 4 13 rfl f_4_44 rfl (congrArg Prod.fst (sh_si (sh_si (sh_si (sh_si (sh_si (sh_si (sh_si (sh_si (sh_si (sh_si (sh_si (sh_si (sh_si (sh_si (sh_si (sh_si (sh_si (sh_si (sh_si (sh_si (sh_si (sh_si (sh_si (sh_si (sh_si (sh_si (sh_si (sh_si (sh_si (sh_si (sh_si (sh_si (sh_si (sh_si (sh_si (sh_si (sh_si (sh_si (sh_si (sh_si (sh_si (sh_si (sh_si (sh_si (F.1 107 (4, 18) rfl rfl)))))))))))))))))))))))))))))))))))))))))))))) (rv_si (rv_si (rv_si (rv_si (rv_si (rv_si (rv_si (rv_si (rv_si (rv_si (rv_si (rv_si (rv_si (rv_si (rv_si (rv_si (rv_si (rv_si (rv_si (rv_si (rv_si (rv_si (rv_si (rv_si (rv_si (rv_si (rv_si (rv_si (rv_si (rv_si (rv_si (rv_si (rv_si (rv_si (rv_si (rv_si (rv_si (rv_si (rv_si (rv_si (rv_si (rv_si (rv_si (rv_si (F.2.1 13709 117 rfl rfl))))))))))))))))))))))))))))))))))))))))))))) ?_
    refine x_iload (x := 39) rfl rfl ?_
    refine x_iconst (v := (-1)) rfl ki_m1 ?_
    refine y_iast (N := 40) 39 rfl (sh_si (sh_si (sh_si (sh_si (sh_si (sh_si (sh_si (sh_si (sh_si (sh_si (sh_si (sh_si (sh_si (sh_si (sh_si (sh_si (sh_si (sh_si (sh_si (sh_si (sh_si (sh_si (sh_si (sh_si (sh_si (sh_si (sh_si (sh_si (sh_si (sh_si (sh_si (sh_si (sh_si (sh_si (sh_si (sh_si (sh_si (sh_si (sh_si (sh_si (sh_si (sh_si (sh_si (sh_si (F.1 117 (100, 40) rfl rfl))))))))))))))))))))))))))))))))))))))))))))) rfl (jinb_of (by decide)) (by decide) ?_
    refine x_iinc (x := 39) (v := 40) (ls' := [(4, .int 40), (0, .ref 107), (1, .int a1), (2, .int a2), (3, .int a3)]) rfl rfl (by decide) rfl rfl ?_
    refine x_goto (tgt := 32) rfl rfl ?_
    refine x_iload (x := 40) rfl rfl ?_
    refine x_bipush (v := 40) rfl kb_40 ?_
    refine x_icge (tgt := 53) rfl rfl (br_t (by decide) ?_)
    exact ct_run ha (fun m h e T => hQ h m e T) (a2.toInt + 1).toNat 0 (by omega) _ _ ⟨(jFe_sa rfl rfl (jFe_sa rfl rfl (jFe_sa rfl rfl (jFe_sa rfl rfl (jFe_sa rfl rfl (jFe_sa rfl rfl (jFe_sa rfl rfl (jFe_sa rfl rfl (jFe_sa rfl rfl (jFe_sa rfl rfl (jFe_sa rfl rfl (jFe_sa rfl rfl (jFe_sa rfl rfl (jFe_sa rfl rfl (jFe_sa rfl rfl (jFe_sa rfl rfl (jFe_sa rfl rfl (jFe_sa rfl rfl (jFe_sa rfl rfl (jFe_sa rfl rfl (jFe_sa rfl rfl (jFe_sa rfl rfl (jFe_sa rfl rfl (jFe_sa rfl rfl (jFe_sa rfl rfl (jFe_sa rfl rfl (jFe_sa rfl rfl (jFe_sa rfl rfl (jFe_sa rfl rfl (jFe_sa rfl rfl (jFe_sa rfl rfl (jFe_sa rfl rfl (jFe_sa rfl rfl (jFe_sa rfl rfl (jFe_sa rfl rfl (jFe_sa rfl rfl (jFe_sa rfl rfl (jFe_sa rfl rfl (jFe_sa rfl rfl (jFe_sa rfl rfl (jFe_sf rfl rfl rfl (jFe_sf rfl rfl rfl (jFe_sa rfl rfl (jFe_sa rfl rfl (jFe_sa rfl rfl (jFe_up rfl rfl F)))))))))))))))))))))))))))))))))))))))))))))), (jFb_si rfl (jFb_si rfl (jFb_si rfl (jFb_si rfl (jFb_si rfl (jFb_si rfl (jFb_si rfl (jFb_si rfl (jFb_si rfl (jFb_si rfl (jFb_si rfl (jFb_si rfl (jFb_si rfl (jFb_si rfl (jFb_si rfl (jFb_si rfl (jFb_si rfl (jFb_si rfl (jFb_si rfl (jFb_si rfl (jFb_si rfl (jFb_si rfl (jFb_si rfl (jFb_si rfl (jFb_si rfl (jFb_si rfl (jFb_si rfl (jFb_si rfl (jFb_si rfl (jFb_si rfl (jFb_si rfl (jFb_si rfl (jFb_si rfl (jFb_si rfl (jFb_si rfl (jFb_si rfl (jFb_si rfl (jFb_si rfl (jFb_si rfl (jFb_si rfl (jFb_si rfl (jFb_si rfl (jFb_si rfl (jFb_si rfl (jFb_si rfl FM))))))))))))))))))))))))))))))))))))))))))))), (jOl_si rfl (jOl_si rfl (jOl_si rfl (jOl_si rfl (jOl_si rfl (jOl_si rfl (jOl_si rfl (jOl_si rfl (jOl_si rfl (jOl_si rfl (jOl_si rfl (jOl_si rfl (jOl_si rfl (jOl_si rfl (jOl_si rfl (jOl_si rfl (jOl_si rfl (jOl_si rfl (jOl_si rfl (jOl_si rfl (jOl_si rfl (jOl_si rfl (jOl_si rfl (jOl_si rfl (jOl_si rfl (jOl_si rfl (jOl_si rfl (jOl_si rfl (jOl_si rfl (jOl_si rfl (jOl_si rfl (jOl_si rfl (jOl_si rfl (jOl_si rfl (jOl_si rfl (jOl_si rfl (jOl_si rfl (jOl_si rfl (jOl_si rfl (jOl_si rfl (jOl_si rfl (jOl_si rfl (jOl_si rfl (jOl_si rfl (jOl_si rfl O))))))))))))))))))))))))))))))))))))))))))))), (iv_si rfl (iv_si rfl (iv_si rfl (iv_si rfl (iv_si rfl (iv_si rfl (iv_si rfl (iv_si rfl (iv_si rfl (iv_si rfl (iv_si rfl (iv_si rfl (iv_si rfl (iv_si rfl (iv_si rfl (iv_si rfl (iv_si rfl (iv_si rfl (iv_si rfl (iv_si rfl (iv_si rfl (iv_si rfl (iv_si rfl (iv_si rfl (iv_si rfl (iv_si rfl (iv_si rfl (iv_si rfl (iv_si rfl (iv_si rfl (iv_si rfl (iv_si rfl (iv_si rfl (iv_si rfl (iv_si rfl (iv_si rfl (iv_si rfl (iv_si rfl (iv_si rfl (iv_si rfl (iv_si rfl iv_eq))))))))))))))))))))))))))))))))))))))))), jarr0, jarr0⟩
  ·
    refine x_aloadn (x := 119) rfl rfl ?_
    refine x_iconst (v := 1) rfl ki_1 ?_
    refine y_iald (v := 0) (N := 3) 1 rfl (F.1 119 (100, 3) rfl rfl) (jinb_of (by decide)) (by decide) (F.2.2.2.1 119 rfl rfl rfl 1).1 ?_
    refine x_iloadn (x := a3) rfl rfl ?_
    refine x_icne (tgt := 33) rfl rfl (ti_ne (show (0 : Int32).toInt = 0 by decide) (show (a3 : Int32).toInt = a3.toInt from rfl) ⟨fun c2 => ?_, fun c2 => ?_⟩)
    ·
      refine x_iconst (v := 0) rfl ki_0 ?_
      refine x_istore (ls' := [(4, .int 0), (0, .ref 119), (1, .int a1), (2, .int a3), (3, .int 1)]) rfl rfl rfl ?_
      refine x_aloadn (x := 119) rfl rfl ?_
      refine x_iconst (v := 0) rfl ki_0 ?_
      refine x_iloadn (x := a1) rfl rfl ?_
      refine y_iast (N := 3) 0 rfl (F.1 119 (100, 3) rfl rfl) rfl (jinb_of (by decide)) (by decide) ?_
      refine x_aloadn (x := 119) rfl rfl ?_
      refine x_iconst (v := 1) rfl ki_1 ?_
      refine x_iloadn (x := a3) rfl rfl ?_
      refine y_iast (N := 3) 1 rfl (sh_si (F.1 119 (100, 3) rfl rfl)) rfl (jinb_of (by decide)) (by decide) ?_
      refine x_aloadn (x := 119) rfl rfl ?_
      refine x_iconst (v := 2) rfl ki_2 ?_
      refine x_iloadn (x := 1) rfl rfl ?_
      refine y_iast (N := 3) 2 rfl (sh_si (sh_si (F.1 119 (100, 3) rfl rfl))) rfl (jinb_of (by decide)) (by decide) ?_
      refine x_iload (x := 0) rfl rfl ?_
      refine x_zret rfl rfl (by first | decide | exact jp_01 _) ?_
      show jX m_X4_runTurns 99 0 0 16 [(0, .ref 107), (1, .int a1), (2, .int a2), (3, .int a3)] [.int 0] _ 0 0 _
      refine x_ifne (tgt := 53) rfl rfl (bn_f (by decide) ?_)
      refine x_aloadn (x := 107) rfl rfl ?_
      refine x_iconst (v := 0) rfl ki_0 ?_
      refine x_putI 4 15 rfl f_4_50 rfl (jfin_no TX4 RX4 18 rfl rfl) (congrArg Prod.fst (sh_si (sh_si (sh_si (F.1 107 (4, 18) rfl rfl))))) rfl ?_
      refine x_aloadn (x := 107) rfl rfl ?_
      refine x_iconst (v := (-1)) rfl ki_m1 ?_
      refine x_putI 4 16 rfl f_4_53 rfl (jfin_no TX4 RX4 18 rfl rfl) (congrArg Prod.fst (sh_si (sh_si (sh_si (sh_si (F.1 107 (4, 18) rfl rfl)))))) rfl ?_
      refine x_iconst (v := 0) rfl ki_0 ?_
      refine x_istore (ls' := [(4, .int 0), (0, .ref 107), (1, .int a1), (2, .int a2), (3, .int a3)]) rfl rfl rfl ?_
      refine x_iload (x := 0) rfl rfl ?_
      refine x_bipush (v := 40) rfl kb_40 ?_
      refine x_icge (tgt := 53) rfl rfl (br_f (by decide) ?_)
      refine x_aloadn (x := 107) rfl rfl ?_
      refine x_getR (b := 117) 4 13 rfl f_4_44 rfl (congrArg Prod.fst (sh_si (sh_si (sh_si (sh_si (sh_si (F.1 107 (4, 18) rfl rfl))))))) (rv_si (rv_si (rv_si (rv_si (rv_si (F.2.1 13709 117 rfl rfl)))))) ?_
      refine x_iload (x := 0) rfl rfl ?_
      refine x_iconst (v := (-1)) rfl ki_m1 ?_
      refine y_iast (N := 40) 0 rfl (sh_si (sh_si (sh_si (sh_si (sh_si (F.1 117 (100, 40) rfl rfl)))))) rfl (jinb_of (by decide)) (by decide) ?_
      refine x_iinc (x := 0) (v := 1) (ls' := [(4, .int 1), (0, .ref 107), (1, .int a1), (2, .int a2), (3, .int a3)]) rfl rfl (by decide) rfl rfl ?_
      refine x_goto (tgt := 32) rfl rfl ?_
      refine x_iload (x := 1) rfl rfl ?_
      refine x_bipush (v := 40) rfl kb_40 ?_
      refine x_icge (tgt := 53) rfl rfl (br_f (by decide) ?_)
      refine x_aloadn (x := 107) rfl rfl ?_
      refine x_getR (b := 117) 4 13 rfl f_4_44 rfl (congrArg Prod.fst (sh_si (sh_si (sh_si (sh_si (sh_si (sh_si (F.1 107 (4, 18) rfl rfl)))))))) (rv_si (rv_si (rv_si (rv_si (rv_si (rv_si (F.2.1 13709 117 rfl rfl))))))) ?_
      refine x_iload (x := 1) rfl rfl ?_
      refine x_iconst (v := (-1)) rfl ki_m1 ?_
      refine y_iast (N := 40) 1 rfl (sh_si (sh_si (sh_si (sh_si (sh_si (sh_si (F.1 117 (100, 40) rfl rfl))))))) rfl (jinb_of (by decide)) (by decide) ?_
      refine x_iinc (x := 1) (v := 2) (ls' := [(4, .int 2), (0, .ref 107), (1, .int a1), (2, .int a2), (3, .int a3)]) rfl rfl (by decide) rfl rfl ?_
      refine x_goto (tgt := 32) rfl rfl ?_
      refine x_iload (x := 2) rfl rfl ?_
      refine x_bipush (v := 40) rfl kb_40 ?_
      refine x_icge (tgt := 53) rfl rfl (br_f (by decide) ?_)
      refine x_aloadn (x := 107) rfl rfl ?_
      refine x_getR (b := 117) 4 13 rfl f_4_44 rfl (congrArg Prod.fst (sh_si (sh_si (sh_si (sh_si (sh_si (sh_si (sh_si (F.1 107 (4, 18) rfl rfl))))))))) (rv_si (rv_si (rv_si (rv_si (rv_si (rv_si (rv_si (F.2.1 13709 117 rfl rfl)))))))) ?_
      refine x_iload (x := 2) rfl rfl ?_
      refine x_iconst (v := (-1)) rfl ki_m1 ?_
      refine y_iast (N := 40) 2 rfl (sh_si (sh_si (sh_si (sh_si (sh_si (sh_si (sh_si (F.1 117 (100, 40) rfl rfl)))))))) rfl (jinb_of (by decide)) (by decide) ?_
      refine x_iinc (x := 2) (v := 3) (ls' := [(4, .int 3), (0, .ref 107), (1, .int a1), (2, .int a2), (3, .int a3)]) rfl rfl (by decide) rfl rfl ?_
      refine x_goto (tgt := 32) rfl rfl ?_
      refine x_iload (x := 3) rfl rfl ?_
      refine x_bipush (v := 40) rfl kb_40 ?_
      refine x_icge (tgt := 53) rfl rfl (br_f (by decide) ?_)
      refine x_aloadn (x := 107) rfl rfl ?_
      refine x_getR (b := 117) 4 13 rfl f_4_44 rfl (congrArg Prod.fst (sh_si (sh_si (sh_si (sh_si (sh_si (sh_si (sh_si (sh_si (F.1 107 (4, 18) rfl rfl)))))))))) (rv_si (rv_si (rv_si (rv_si (rv_si (rv_si (rv_si (rv_si (F.2.1 13709 117 rfl rfl))))))))) ?_
      refine x_iload (x := 3) rfl rfl ?_
      refine x_iconst (v := (-1)) rfl ki_m1 ?_
      refine y_iast (N := 40) 3 rfl (sh_si (sh_si (sh_si (sh_si (sh_si (sh_si (sh_si (sh_si (F.1 117 (100, 40) rfl rfl))))))))) rfl (jinb_of (by decide)) (by decide) ?_
      refine x_iinc (x := 3) (v := 4) (ls' := [(4, .int 4), (0, .ref 107), (1, .int a1), (2, .int a2), (3, .int a3)]) rfl rfl (by decide) rfl rfl ?_
      refine x_goto (tgt := 32) rfl rfl ?_
      refine x_iload (x := 4) rfl rfl ?_
      refine x_bipush (v := 40) rfl kb_40 ?_
      refine x_icge (tgt := 53) rfl rfl (br_f (by decide) ?_)
      refine x_aloadn (x := 107) rfl rfl ?_
      refine x_getR (b := 117) 4 13 rfl f_4_44 rfl (congrArg Prod.fst (sh_si (sh_si (sh_si (sh_si (sh_si (sh_si (sh_si (sh_si (sh_si (F.1 107 (4, 18) rfl rfl))))))))))) (rv_si (rv_si (rv_si (rv_si (rv_si (rv_si (rv_si (rv_si (rv_si (F.2.1 13709 117 rfl rfl)))))))))) ?_
      refine x_iload (x := 4) rfl rfl ?_
      refine x_iconst (v := (-1)) rfl ki_m1 ?_
      refine y_iast (N := 40) 4 rfl (sh_si (sh_si (sh_si (sh_si (sh_si (sh_si (sh_si (sh_si (sh_si (F.1 117 (100, 40) rfl rfl)))))))))) rfl (jinb_of (by decide)) (by decide) ?_
      refine x_iinc (x := 4) (v := 5) (ls' := [(4, .int 5), (0, .ref 107), (1, .int a1), (2, .int a2), (3, .int a3)]) rfl rfl (by decide) rfl rfl ?_
      refine x_goto (tgt := 32) rfl rfl ?_
      refine x_iload (x := 5) rfl rfl ?_
      refine x_bipush (v := 40) rfl kb_40 ?_
      refine x_icge (tgt := 53) rfl rfl (br_f (by decide) ?_)
      refine x_aloadn (x := 107) rfl rfl ?_
      refine x_getR (b := 117) 4 13 rfl f_4_44 rfl (congrArg Prod.fst (sh_si (sh_si (sh_si (sh_si (sh_si (sh_si (sh_si (sh_si (sh_si (sh_si (F.1 107 (4, 18) rfl rfl)))))))))))) (rv_si (rv_si (rv_si (rv_si (rv_si (rv_si (rv_si (rv_si (rv_si (rv_si (F.2.1 13709 117 rfl rfl))))))))))) ?_
      refine x_iload (x := 5) rfl rfl ?_
      refine x_iconst (v := (-1)) rfl ki_m1 ?_
      refine y_iast (N := 40) 5 rfl (sh_si (sh_si (sh_si (sh_si (sh_si (sh_si (sh_si (sh_si (sh_si (sh_si (F.1 117 (100, 40) rfl rfl))))))))))) rfl (jinb_of (by decide)) (by decide) ?_
      refine x_iinc (x := 5) (v := 6) (ls' := [(4, .int 6), (0, .ref 107), (1, .int a1), (2, .int a2), (3, .int a3)]) rfl rfl (by decide) rfl rfl ?_
      refine x_goto (tgt := 32) rfl rfl ?_
      refine x_iload (x := 6) rfl rfl ?_
      refine x_bipush (v := 40) rfl kb_40 ?_
      refine x_icge (tgt := 53) rfl rfl (br_f (by decide) ?_)
      refine x_aloadn (x := 107) rfl rfl ?_
      refine x_getR (b := 117) 4 13 rfl f_4_44 rfl (congrArg Prod.fst (sh_si (sh_si (sh_si (sh_si (sh_si (sh_si (sh_si (sh_si (sh_si (sh_si (sh_si (F.1 107 (4, 18) rfl rfl))))))))))))) (rv_si (rv_si (rv_si (rv_si (rv_si (rv_si (rv_si (rv_si (rv_si (rv_si (rv_si (F.2.1 13709 117 rfl rfl)))))))))))) ?_
      refine x_iload (x := 6) rfl rfl ?_
      refine x_iconst (v := (-1)) rfl ki_m1 ?_
      refine y_iast (N := 40) 6 rfl (sh_si (sh_si (sh_si (sh_si (sh_si (sh_si (sh_si (sh_si (sh_si (sh_si (sh_si (F.1 117 (100, 40) rfl rfl)))))))))))) rfl (jinb_of (by decide)) (by decide) ?_
      refine x_iinc (x := 6) (v := 7) (ls' := [(4, .int 7), (0, .ref 107), (1, .int a1), (2, .int a2), (3, .int a3)]) rfl rfl (by decide) rfl rfl ?_
      refine x_goto (tgt := 32) rfl rfl ?_
      refine x_iload (x := 7) rfl rfl ?_
      refine x_bipush (v := 40) rfl kb_40 ?_
      refine x_icge (tgt := 53) rfl rfl (br_f (by decide) ?_)
      refine x_aloadn (x := 107) rfl rfl ?_
      refine x_getR (b := 117) 4 13 rfl f_4_44 rfl (congrArg Prod.fst (sh_si (sh_si (sh_si (sh_si (sh_si (sh_si (sh_si (sh_si (sh_si (sh_si (sh_si (sh_si (F.1 107 (4, 18) rfl rfl)))))))))))))) (rv_si (rv_si (rv_si (rv_si (rv_si (rv_si (rv_si (rv_si (rv_si (rv_si (rv_si (rv_si (F.2.1 13709 117 rfl rfl))))))))))))) ?_
      refine x_iload (x := 7) rfl rfl ?_
      refine x_iconst (v := (-1)) rfl ki_m1 ?_
      refine y_iast (N := 40) 7 rfl (sh_si (sh_si (sh_si (sh_si (sh_si (sh_si (sh_si (sh_si (sh_si (sh_si (sh_si (sh_si (F.1 117 (100, 40) rfl rfl))))))))))))) rfl (jinb_of (by decide)) (by decide) ?_
      refine x_iinc (x := 7) (v := 8) (ls' := [(4, .int 8), (0, .ref 107), (1, .int a1), (2, .int a2), (3, .int a3)]) rfl rfl (by decide) rfl rfl ?_
      refine x_goto (tgt := 32) rfl rfl ?_
      refine x_iload (x := 8) rfl rfl ?_
      refine x_bipush (v := 40) rfl kb_40 ?_
      refine x_icge (tgt := 53) rfl rfl (br_f (by decide) ?_)
      refine x_aloadn (x := 107) rfl rfl ?_
      refine x_getR (b := 117) 4 13 rfl f_4_44 rfl (congrArg Prod.fst (sh_si (sh_si (sh_si (sh_si (sh_si (sh_si (sh_si (sh_si (sh_si (sh_si (sh_si (sh_si (sh_si (F.1 107 (4, 18) rfl rfl))))))))))))))) (rv_si (rv_si (rv_si (rv_si (rv_si (rv_si (rv_si (rv_si (rv_si (rv_si (rv_si (rv_si (rv_si (F.2.1 13709 117 rfl rfl)))))))))))))) ?_
      refine x_iload (x := 8) rfl rfl ?_
      refine x_iconst (v := (-1)) rfl ki_m1 ?_
      refine y_iast (N := 40) 8 rfl (sh_si (sh_si (sh_si (sh_si (sh_si (sh_si (sh_si (sh_si (sh_si (sh_si (sh_si (sh_si (sh_si (F.1 117 (100, 40) rfl rfl)))))))))))))) rfl (jinb_of (by decide)) (by decide) ?_
      refine x_iinc (x := 8) (v := 9) (ls' := [(4, .int 9), (0, .ref 107), (1, .int a1), (2, .int a2), (3, .int a3)]) rfl rfl (by decide) rfl rfl ?_
      refine x_goto (tgt := 32) rfl rfl ?_
      refine x_iload (x := 9) rfl rfl ?_
      refine x_bipush (v := 40) rfl kb_40 ?_
      refine x_icge (tgt := 53) rfl rfl (br_f (by decide) ?_)
      refine x_aloadn (x := 107) rfl rfl ?_
      refine x_getR (b := 117) 4 13 rfl f_4_44 rfl (congrArg Prod.fst (sh_si (sh_si (sh_si (sh_si (sh_si (sh_si (sh_si (sh_si (sh_si (sh_si (sh_si (sh_si (sh_si (sh_si (F.1 107 (4, 18) rfl rfl)))))))))))))))) (rv_si (rv_si (rv_si (rv_si (rv_si (rv_si (rv_si (rv_si (rv_si (rv_si (rv_si (rv_si (rv_si (rv_si (F.2.1 13709 117 rfl rfl))))))))))))))) ?_
      refine x_iload (x := 9) rfl rfl ?_
      refine x_iconst (v := (-1)) rfl ki_m1 ?_
      refine y_iast (N := 40) 9 rfl (sh_si (sh_si (sh_si (sh_si (sh_si (sh_si (sh_si (sh_si (sh_si (sh_si (sh_si (sh_si (sh_si (sh_si (F.1 117 (100, 40) rfl rfl))))))))))))))) rfl (jinb_of (by decide)) (by decide) ?_
      refine x_iinc (x := 9) (v := 10) (ls' := [(4, .int 10), (0, .ref 107), (1, .int a1), (2, .int a2), (3, .int a3)]) rfl rfl (by decide) rfl rfl ?_
      refine x_goto (tgt := 32) rfl rfl ?_
      refine x_iload (x := 10) rfl rfl ?_
      refine x_bipush (v := 40) rfl kb_40 ?_
      refine x_icge (tgt := 53) rfl rfl (br_f (by decide) ?_)
      refine x_aloadn (x := 107) rfl rfl ?_
      refine x_getR (b := 117) 4 13 rfl f_4_44 rfl (congrArg Prod.fst (sh_si (sh_si (sh_si (sh_si (sh_si (sh_si (sh_si (sh_si (sh_si (sh_si (sh_si (sh_si (sh_si (sh_si (sh_si (F.1 107 (4, 18) rfl rfl))))))))))))))))) (rv_si (rv_si (rv_si (rv_si (rv_si (rv_si (rv_si (rv_si (rv_si (rv_si (rv_si (rv_si (rv_si (rv_si (rv_si (F.2.1 13709 117 rfl rfl)))))))))))))))) ?_
      refine x_iload (x := 10) rfl rfl ?_
      refine x_iconst (v := (-1)) rfl ki_m1 ?_
      refine y_iast (N := 40) 10 rfl (sh_si (sh_si (sh_si (sh_si (sh_si (sh_si (sh_si (sh_si (sh_si (sh_si (sh_si (sh_si (sh_si (sh_si (sh_si (F.1 117 (100, 40) rfl rfl)))))))))))))))) rfl (jinb_of (by decide)) (by decide) ?_
      refine x_iinc (x := 10) (v := 11) (ls' := [(4, .int 11), (0, .ref 107), (1, .int a1), (2, .int a2), (3, .int a3)]) rfl rfl (by decide) rfl rfl ?_
      refine x_goto (tgt := 32) rfl rfl ?_
      refine x_iload (x := 11) rfl rfl ?_
      refine x_bipush (v := 40) rfl kb_40 ?_
      refine x_icge (tgt := 53) rfl rfl (br_f (by decide) ?_)
      refine x_aloadn (x := 107) rfl rfl ?_
      refine x_getR (b := 117) 4 13 rfl f_4_44 rfl (congrArg Prod.fst (sh_si (sh_si (sh_si (sh_si (sh_si (sh_si (sh_si (sh_si (sh_si (sh_si (sh_si (sh_si (sh_si (sh_si (sh_si (sh_si (F.1 107 (4, 18) rfl rfl)))))))))))))))))) (rv_si (rv_si (rv_si (rv_si (rv_si (rv_si (rv_si (rv_si (rv_si (rv_si (rv_si (rv_si (rv_si (rv_si (rv_si (rv_si (F.2.1 13709 117 rfl rfl))))))))))))))))) ?_
      refine x_iload (x := 11) rfl rfl ?_
      refine x_iconst (v := (-1)) rfl ki_m1 ?_
      refine y_iast (N := 40) 11 rfl (sh_si (sh_si (sh_si (sh_si (sh_si (sh_si (sh_si (sh_si (sh_si (sh_si (sh_si (sh_si (sh_si (sh_si (sh_si (sh_si (F.1 117 (100, 40) rfl rfl))))))))))))))))) rfl (jinb_of (by decide)) (by decide) ?_
      refine x_iinc (x := 11) (v := 12) (ls' := [(4, .int 12), (0, .ref 107), (1, .int a1), (2, .int a2), (3, .int a3)]) rfl rfl (by decide) rfl rfl ?_
      refine x_goto (tgt := 32) rfl rfl ?_
      refine x_iload (x := 12) rfl rfl ?_
      refine x_bipush (v := 40) rfl kb_40 ?_
      refine x_icge (tgt := 53) rfl rfl (br_f (by decide) ?_)
      refine x_aloadn (x := 107) rfl rfl ?_
      refine x_getR (b := 117) 4 13 rfl f_4_44 rfl (congrArg Prod.fst (sh_si (sh_si (sh_si (sh_si (sh_si (sh_si (sh_si (sh_si (sh_si (sh_si (sh_si (sh_si (sh_si (sh_si (sh_si (sh_si (sh_si (F.1 107 (4, 18) rfl rfl))))))))))))))))))) (rv_si (rv_si (rv_si (rv_si (rv_si (rv_si (rv_si (rv_si (rv_si (rv_si (rv_si (rv_si (rv_si (rv_si (rv_si (rv_si (rv_si (F.2.1 13709 117 rfl rfl)))))))))))))))))) ?_
      refine x_iload (x := 12) rfl rfl ?_
      refine x_iconst (v := (-1)) rfl ki_m1 ?_
      refine y_iast (N := 40) 12 rfl (sh_si (sh_si (sh_si (sh_si (sh_si (sh_si (sh_si (sh_si (sh_si (sh_si (sh_si (sh_si (sh_si (sh_si (sh_si (sh_si (sh_si (F.1 117 (100, 40) rfl rfl)))))))))))))))))) rfl (jinb_of (by decide)) (by decide) ?_
      refine x_iinc (x := 12) (v := 13) (ls' := [(4, .int 13), (0, .ref 107), (1, .int a1), (2, .int a2), (3, .int a3)]) rfl rfl (by decide) rfl rfl ?_
      refine x_goto (tgt := 32) rfl rfl ?_
      refine x_iload (x := 13) rfl rfl ?_
      refine x_bipush (v := 40) rfl kb_40 ?_
      refine x_icge (tgt := 53) rfl rfl (br_f (by decide) ?_)
      refine x_aloadn (x := 107) rfl rfl ?_
      refine x_getR (b := 117) 4 13 rfl f_4_44 rfl (congrArg Prod.fst (sh_si (sh_si (sh_si (sh_si (sh_si (sh_si (sh_si (sh_si (sh_si (sh_si (sh_si (sh_si (sh_si (sh_si (sh_si (sh_si (sh_si (sh_si (F.1 107 (4, 18) rfl rfl)))))))))))))))))))) (rv_si (rv_si (rv_si (rv_si (rv_si (rv_si (rv_si (rv_si (rv_si (rv_si (rv_si (rv_si (rv_si (rv_si (rv_si (rv_si (rv_si (rv_si (F.2.1 13709 117 rfl rfl))))))))))))))))))) ?_
      refine x_iload (x := 13) rfl rfl ?_
      refine x_iconst (v := (-1)) rfl ki_m1 ?_
      refine y_iast (N := 40) 13 rfl (sh_si (sh_si (sh_si (sh_si (sh_si (sh_si (sh_si (sh_si (sh_si (sh_si (sh_si (sh_si (sh_si (sh_si (sh_si (sh_si (sh_si (sh_si (F.1 117 (100, 40) rfl rfl))))))))))))))))))) rfl (jinb_of (by decide)) (by decide) ?_
      refine x_iinc (x := 13) (v := 14) (ls' := [(4, .int 14), (0, .ref 107), (1, .int a1), (2, .int a2), (3, .int a3)]) rfl rfl (by decide) rfl rfl ?_
      refine x_goto (tgt := 32) rfl rfl ?_
      refine x_iload (x := 14) rfl rfl ?_
      refine x_bipush (v := 40) rfl kb_40 ?_
      refine x_icge (tgt := 53) rfl rfl (br_f (by decide) ?_)
      refine x_aloadn (x := 107) rfl rfl ?_
      refine x_getR (b := 117) 4 13 rfl f_4_44 rfl (congrArg Prod.fst (sh_si (sh_si (sh_si (sh_si (sh_si (sh_si (sh_si (sh_si (sh_si (sh_si (sh_si (sh_si (sh_si (sh_si (sh_si (sh_si (sh_si (sh_si (sh_si (F.1 107 (4, 18) rfl rfl))))))))))))))))))))) (rv_si (rv_si (rv_si (rv_si (rv_si (rv_si (rv_si (rv_si (rv_si (rv_si (rv_si (rv_si (rv_si (rv_si (rv_si (rv_si (rv_si (rv_si (rv_si (F.2.1 13709 117 rfl rfl)))))))))))))))))))) ?_
      refine x_iload (x := 14) rfl rfl ?_
      refine x_iconst (v := (-1)) rfl ki_m1 ?_
      refine y_iast (N := 40) 14 rfl (sh_si (sh_si (sh_si (sh_si (sh_si (sh_si (sh_si (sh_si (sh_si (sh_si (sh_si (sh_si (sh_si (sh_si (sh_si (sh_si (sh_si (sh_si (sh_si (F.1 117 (100, 40) rfl rfl)))))))))))))))))))) rfl (jinb_of (by decide)) (by decide) ?_
      refine x_iinc (x := 14) (v := 15) (ls' := [(4, .int 15), (0, .ref 107), (1, .int a1), (2, .int a2), (3, .int a3)]) rfl rfl (by decide) rfl rfl ?_
      refine x_goto (tgt := 32) rfl rfl ?_
      refine x_iload (x := 15) rfl rfl ?_
      refine x_bipush (v := 40) rfl kb_40 ?_
      refine x_icge (tgt := 53) rfl rfl (br_f (by decide) ?_)
      refine x_aloadn (x := 107) rfl rfl ?_
      refine x_getR (b := 117) 4 13 rfl f_4_44 rfl (congrArg Prod.fst (sh_si (sh_si (sh_si (sh_si (sh_si (sh_si (sh_si (sh_si (sh_si (sh_si (sh_si (sh_si (sh_si (sh_si (sh_si (sh_si (sh_si (sh_si (sh_si (sh_si (F.1 107 (4, 18) rfl rfl)))))))))))))))))))))) (rv_si (rv_si (rv_si (rv_si (rv_si (rv_si (rv_si (rv_si (rv_si (rv_si (rv_si (rv_si (rv_si (rv_si (rv_si (rv_si (rv_si (rv_si (rv_si (rv_si (F.2.1 13709 117 rfl rfl))))))))))))))))))))) ?_
      refine x_iload (x := 15) rfl rfl ?_
      refine x_iconst (v := (-1)) rfl ki_m1 ?_
      refine y_iast (N := 40) 15 rfl (sh_si (sh_si (sh_si (sh_si (sh_si (sh_si (sh_si (sh_si (sh_si (sh_si (sh_si (sh_si (sh_si (sh_si (sh_si (sh_si (sh_si (sh_si (sh_si (sh_si (F.1 117 (100, 40) rfl rfl))))))))))))))))))))) rfl (jinb_of (by decide)) (by decide) ?_
      refine x_iinc (x := 15) (v := 16) (ls' := [(4, .int 16), (0, .ref 107), (1, .int a1), (2, .int a2), (3, .int a3)]) rfl rfl (by decide) rfl rfl ?_
      refine x_goto (tgt := 32) rfl rfl ?_
      refine x_iload (x := 16) rfl rfl ?_
      refine x_bipush (v := 40) rfl kb_40 ?_
      refine x_icge (tgt := 53) rfl rfl (br_f (by decide) ?_)
      refine x_aloadn (x := 107) rfl rfl ?_
      refine x_getR (b := 117) 4 13 rfl f_4_44 rfl (congrArg Prod.fst (sh_si (sh_si (sh_si (sh_si (sh_si (sh_si (sh_si (sh_si (sh_si (sh_si (sh_si (sh_si (sh_si (sh_si (sh_si (sh_si (sh_si (sh_si (sh_si (sh_si (sh_si (F.1 107 (4, 18) rfl rfl))))))))))))))))))))))) (rv_si (rv_si (rv_si (rv_si (rv_si (rv_si (rv_si (rv_si (rv_si (rv_si (rv_si (rv_si (rv_si (rv_si (rv_si (rv_si (rv_si (rv_si (rv_si (rv_si (rv_si (F.2.1 13709 117 rfl rfl)))))))))))))))))))))) ?_
      refine x_iload (x := 16) rfl rfl ?_
      refine x_iconst (v := (-1)) rfl ki_m1 ?_
      refine y_iast (N := 40) 16 rfl (sh_si (sh_si (sh_si (sh_si (sh_si (sh_si (sh_si (sh_si (sh_si (sh_si (sh_si (sh_si (sh_si (sh_si (sh_si (sh_si (sh_si (sh_si (sh_si (sh_si (sh_si (F.1 117 (100, 40) rfl rfl)))))))))))))))))))))) rfl (jinb_of (by decide)) (by decide) ?_
      refine x_iinc (x := 16) (v := 17) (ls' := [(4, .int 17), (0, .ref 107), (1, .int a1), (2, .int a2), (3, .int a3)]) rfl rfl (by decide) rfl rfl ?_
      refine x_goto (tgt := 32) rfl rfl ?_
      refine x_iload (x := 17) rfl rfl ?_
      refine x_bipush (v := 40) rfl kb_40 ?_
      refine x_icge (tgt := 53) rfl rfl (br_f (by decide) ?_)
      refine x_aloadn (x := 107) rfl rfl ?_
      refine x_getR (b := 117) 4 13 rfl f_4_44 rfl (congrArg Prod.fst (sh_si (sh_si (sh_si (sh_si (sh_si (sh_si (sh_si (sh_si (sh_si (sh_si (sh_si (sh_si (sh_si (sh_si (sh_si (sh_si (sh_si (sh_si (sh_si (sh_si (sh_si (sh_si (F.1 107 (4, 18) rfl rfl)))))))))))))))))))))))) (rv_si (rv_si (rv_si (rv_si (rv_si (rv_si (rv_si (rv_si (rv_si (rv_si (rv_si (rv_si (rv_si (rv_si (rv_si (rv_si (rv_si (rv_si (rv_si (rv_si (rv_si (rv_si (F.2.1 13709 117 rfl rfl))))))))))))))))))))))) ?_
      refine x_iload (x := 17) rfl rfl ?_
      refine x_iconst (v := (-1)) rfl ki_m1 ?_
      refine y_iast (N := 40) 17 rfl (sh_si (sh_si (sh_si (sh_si (sh_si (sh_si (sh_si (sh_si (sh_si (sh_si (sh_si (sh_si (sh_si (sh_si (sh_si (sh_si (sh_si (sh_si (sh_si (sh_si (sh_si (sh_si (F.1 117 (100, 40) rfl rfl))))))))))))))))))))))) rfl (jinb_of (by decide)) (by decide) ?_
      refine x_iinc (x := 17) (v := 18) (ls' := [(4, .int 18), (0, .ref 107), (1, .int a1), (2, .int a2), (3, .int a3)]) rfl rfl (by decide) rfl rfl ?_
      refine x_goto (tgt := 32) rfl rfl ?_
      refine x_iload (x := 18) rfl rfl ?_
      refine x_bipush (v := 40) rfl kb_40 ?_
      refine x_icge (tgt := 53) rfl rfl (br_f (by decide) ?_)
      refine x_aloadn (x := 107) rfl rfl ?_
      refine x_getR (b := 117) 4 13 rfl f_4_44 rfl (congrArg Prod.fst (sh_si (sh_si (sh_si (sh_si (sh_si (sh_si (sh_si (sh_si (sh_si (sh_si (sh_si (sh_si (sh_si (sh_si (sh_si (sh_si (sh_si (sh_si (sh_si (sh_si (sh_si (sh_si (sh_si (F.1 107 (4, 18) rfl rfl))))))))))))))))))))))))) (rv_si (rv_si (rv_si (rv_si (rv_si (rv_si (rv_si (rv_si (rv_si (rv_si (rv_si (rv_si (rv_si (rv_si (rv_si (rv_si (rv_si (rv_si (rv_si (rv_si (rv_si (rv_si (rv_si (F.2.1 13709 117 rfl rfl)))))))))))))))))))))))) ?_
      refine x_iload (x := 18) rfl rfl ?_
      refine x_iconst (v := (-1)) rfl ki_m1 ?_
      refine y_iast (N := 40) 18 rfl (sh_si (sh_si (sh_si (sh_si (sh_si (sh_si (sh_si (sh_si (sh_si (sh_si (sh_si (sh_si (sh_si (sh_si (sh_si (sh_si (sh_si (sh_si (sh_si (sh_si (sh_si (sh_si (sh_si (F.1 117 (100, 40) rfl rfl)))))))))))))))))))))))) rfl (jinb_of (by decide)) (by decide) ?_
      refine x_iinc (x := 18) (v := 19) (ls' := [(4, .int 19), (0, .ref 107), (1, .int a1), (2, .int a2), (3, .int a3)]) rfl rfl (by decide) rfl rfl ?_
      refine x_goto (tgt := 32) rfl rfl ?_
      refine x_iload (x := 19) rfl rfl ?_
      refine x_bipush (v := 40) rfl kb_40 ?_
      refine x_icge (tgt := 53) rfl rfl (br_f (by decide) ?_)
      refine x_aloadn (x := 107) rfl rfl ?_
      refine x_getR (b := 117) 4 13 rfl f_4_44 rfl (congrArg Prod.fst (sh_si (sh_si (sh_si (sh_si (sh_si (sh_si (sh_si (sh_si (sh_si (sh_si (sh_si (sh_si (sh_si (sh_si (sh_si (sh_si (sh_si (sh_si (sh_si (sh_si (sh_si (sh_si (sh_si (sh_si (F.1 107 (4, 18) rfl rfl)))))))))))))))))))))))))) (rv_si (rv_si (rv_si (rv_si (rv_si (rv_si (rv_si (rv_si (rv_si (rv_si (rv_si (rv_si (rv_si (rv_si (rv_si (rv_si (rv_si (rv_si (rv_si (rv_si (rv_si (rv_si (rv_si (rv_si (F.2.1 13709 117 rfl rfl))))))))))))))))))))))))) ?_
      refine x_iload (x := 19) rfl rfl ?_
      refine x_iconst (v := (-1)) rfl ki_m1 ?_
      refine y_iast (N := 40) 19 rfl (sh_si (sh_si (sh_si (sh_si (sh_si (sh_si (sh_si (sh_si (sh_si (sh_si (sh_si (sh_si (sh_si (sh_si (sh_si (sh_si (sh_si (sh_si (sh_si (sh_si (sh_si (sh_si (sh_si (sh_si (F.1 117 (100, 40) rfl rfl))))))))))))))))))))))))) rfl (jinb_of (by decide)) (by decide) ?_
      refine x_iinc (x := 19) (v := 20) (ls' := [(4, .int 20), (0, .ref 107), (1, .int a1), (2, .int a2), (3, .int a3)]) rfl rfl (by decide) rfl rfl ?_
      refine x_goto (tgt := 32) rfl rfl ?_
      refine x_iload (x := 20) rfl rfl ?_
      refine x_bipush (v := 40) rfl kb_40 ?_
      refine x_icge (tgt := 53) rfl rfl (br_f (by decide) ?_)
      refine x_aloadn (x := 107) rfl rfl ?_
      refine x_getR (b := 117) 4 13 rfl f_4_44 rfl (congrArg Prod.fst (sh_si (sh_si (sh_si (sh_si (sh_si (sh_si (sh_si (sh_si (sh_si (sh_si (sh_si (sh_si (sh_si (sh_si (sh_si (sh_si (sh_si (sh_si (sh_si (sh_si (sh_si (sh_si (sh_si (sh_si (sh_si (F.1 107 (4, 18) rfl rfl))))))))))))))))))))))))))) (rv_si (rv_si (rv_si (rv_si (rv_si (rv_si (rv_si (rv_si (rv_si (rv_si (rv_si (rv_si (rv_si (rv_si (rv_si (rv_si (rv_si (rv_si (rv_si (rv_si (rv_si (rv_si (rv_si (rv_si (rv_si (F.2.1 13709 117 rfl rfl)))))))))))))))))))))))))) ?_
      refine x_iload (x := 20) rfl rfl ?_
      refine x_iconst (v := (-1)) rfl ki_m1 ?_
      refine y_iast (N := 40) 20 rfl (sh_si (sh_si (sh_si (sh_si (sh_si (sh_si (sh_si (sh_si (sh_si (sh_si (sh_si (sh_si (sh_si (sh_si (sh_si (sh_si (sh_si (sh_si (sh_si (sh_si (sh_si (sh_si (sh_si (sh_si (sh_si (F.1 117 (100, 40) rfl rfl)))))))))))))))))))))))))) rfl (jinb_of (by decide)) (by decide) ?_
      refine x_iinc (x := 20) (v := 21) (ls' := [(4, .int 21), (0, .ref 107), (1, .int a1), (2, .int a2), (3, .int a3)]) rfl rfl (by decide) rfl rfl ?_
      refine x_goto (tgt := 32) rfl rfl ?_
      refine x_iload (x := 21) rfl rfl ?_
      refine x_bipush (v := 40) rfl kb_40 ?_
      refine x_icge (tgt := 53) rfl rfl (br_f (by decide) ?_)
      refine x_aloadn (x := 107) rfl rfl ?_
      refine x_getR (b := 117) 4 13 rfl f_4_44 rfl (congrArg Prod.fst (sh_si (sh_si (sh_si (sh_si (sh_si (sh_si (sh_si (sh_si (sh_si (sh_si (sh_si (sh_si (sh_si (sh_si (sh_si (sh_si (sh_si (sh_si (sh_si (sh_si (sh_si (sh_si (sh_si (sh_si (sh_si (sh_si (F.1 107 (4, 18) rfl rfl)))))))))))))))))))))))))))) (rv_si (rv_si (rv_si (rv_si (rv_si (rv_si (rv_si (rv_si (rv_si (rv_si (rv_si (rv_si (rv_si (rv_si (rv_si (rv_si (rv_si (rv_si (rv_si (rv_si (rv_si (rv_si (rv_si (rv_si (rv_si (rv_si (F.2.1 13709 117 rfl rfl))))))))))))))))))))))))))) ?_
      refine x_iload (x := 21) rfl rfl ?_
      refine x_iconst (v := (-1)) rfl ki_m1 ?_
      refine y_iast (N := 40) 21 rfl (sh_si (sh_si (sh_si (sh_si (sh_si (sh_si (sh_si (sh_si (sh_si (sh_si (sh_si (sh_si (sh_si (sh_si (sh_si (sh_si (sh_si (sh_si (sh_si (sh_si (sh_si (sh_si (sh_si (sh_si (sh_si (sh_si (F.1 117 (100, 40) rfl rfl))))))))))))))))))))))))))) rfl (jinb_of (by decide)) (by decide) ?_
      refine x_iinc (x := 21) (v := 22) (ls' := [(4, .int 22), (0, .ref 107), (1, .int a1), (2, .int a2), (3, .int a3)]) rfl rfl (by decide) rfl rfl ?_
      refine x_goto (tgt := 32) rfl rfl ?_
      refine x_iload (x := 22) rfl rfl ?_
      refine x_bipush (v := 40) rfl kb_40 ?_
      refine x_icge (tgt := 53) rfl rfl (br_f (by decide) ?_)
      refine x_aloadn (x := 107) rfl rfl ?_
      refine x_getR (b := 117) 4 13 rfl f_4_44 rfl (congrArg Prod.fst (sh_si (sh_si (sh_si (sh_si (sh_si (sh_si (sh_si (sh_si (sh_si (sh_si (sh_si (sh_si (sh_si (sh_si (sh_si (sh_si (sh_si (sh_si (sh_si (sh_si (sh_si (sh_si (sh_si (sh_si (sh_si (sh_si (sh_si (F.1 107 (4, 18) rfl rfl))))))))))))))))))))))))))))) (rv_si (rv_si (rv_si (rv_si (rv_si (rv_si (rv_si (rv_si (rv_si (rv_si (rv_si (rv_si (rv_si (rv_si (rv_si (rv_si (rv_si (rv_si (rv_si (rv_si (rv_si (rv_si (rv_si (rv_si (rv_si (rv_si (rv_si (F.2.1 13709 117 rfl rfl)))))))))))))))))))))))))))) ?_
      refine x_iload (x := 22) rfl rfl ?_
      refine x_iconst (v := (-1)) rfl ki_m1 ?_
      refine y_iast (N := 40) 22 rfl (sh_si (sh_si (sh_si (sh_si (sh_si (sh_si (sh_si (sh_si (sh_si (sh_si (sh_si (sh_si (sh_si (sh_si (sh_si (sh_si (sh_si (sh_si (sh_si (sh_si (sh_si (sh_si (sh_si (sh_si (sh_si (sh_si (sh_si (F.1 117 (100, 40) rfl rfl)))))))))))))))))))))))))))) rfl (jinb_of (by decide)) (by decide) ?_
      refine x_iinc (x := 22) (v := 23) (ls' := [(4, .int 23), (0, .ref 107), (1, .int a1), (2, .int a2), (3, .int a3)]) rfl rfl (by decide) rfl rfl ?_
      refine x_goto (tgt := 32) rfl rfl ?_
      refine x_iload (x := 23) rfl rfl ?_
      refine x_bipush (v := 40) rfl kb_40 ?_
      refine x_icge (tgt := 53) rfl rfl (br_f (by decide) ?_)
      refine x_aloadn (x := 107) rfl rfl ?_
      refine x_getR (b := 117) 4 13 rfl f_4_44 rfl (congrArg Prod.fst (sh_si (sh_si (sh_si (sh_si (sh_si (sh_si (sh_si (sh_si (sh_si (sh_si (sh_si (sh_si (sh_si (sh_si (sh_si (sh_si (sh_si (sh_si (sh_si (sh_si (sh_si (sh_si (sh_si (sh_si (sh_si (sh_si (sh_si (sh_si (F.1 107 (4, 18) rfl rfl)))))))))))))))))))))))))))))) (rv_si (rv_si (rv_si (rv_si (rv_si (rv_si (rv_si (rv_si (rv_si (rv_si (rv_si (rv_si (rv_si (rv_si (rv_si (rv_si (rv_si (rv_si (rv_si (rv_si (rv_si (rv_si (rv_si (rv_si (rv_si (rv_si (rv_si (rv_si (F.2.1 13709 117 rfl rfl))))))))))))))))))))))))))))) ?_
      refine x_iload (x := 23) rfl rfl ?_
      refine x_iconst (v := (-1)) rfl ki_m1 ?_
      refine y_iast (N := 40) 23 rfl (sh_si (sh_si (sh_si (sh_si (sh_si (sh_si (sh_si (sh_si (sh_si (sh_si (sh_si (sh_si (sh_si (sh_si (sh_si (sh_si (sh_si (sh_si (sh_si (sh_si (sh_si (sh_si (sh_si (sh_si (sh_si (sh_si (sh_si (sh_si (F.1 117 (100, 40) rfl rfl))))))))))))))))))))))))))))) rfl (jinb_of (by decide)) (by decide) ?_
      refine x_iinc (x := 23) (v := 24) (ls' := [(4, .int 24), (0, .ref 107), (1, .int a1), (2, .int a2), (3, .int a3)]) rfl rfl (by decide) rfl rfl ?_
      refine x_goto (tgt := 32) rfl rfl ?_
      refine x_iload (x := 24) rfl rfl ?_
      refine x_bipush (v := 40) rfl kb_40 ?_
      refine x_icge (tgt := 53) rfl rfl (br_f (by decide) ?_)
      refine x_aloadn (x := 107) rfl rfl ?_
      refine x_getR (b := 117) 4 13 rfl f_4_44 rfl (congrArg Prod.fst (sh_si (sh_si (sh_si (sh_si (sh_si (sh_si (sh_si (sh_si (sh_si (sh_si (sh_si (sh_si (sh_si (sh_si (sh_si (sh_si (sh_si (sh_si (sh_si (sh_si (sh_si (sh_si (sh_si (sh_si (sh_si (sh_si (sh_si (sh_si (sh_si (F.1 107 (4, 18) rfl rfl))))))))))))))))))))))))))))))) (rv_si (rv_si (rv_si (rv_si (rv_si (rv_si (rv_si (rv_si (rv_si (rv_si (rv_si (rv_si (rv_si (rv_si (rv_si (rv_si (rv_si (rv_si (rv_si (rv_si (rv_si (rv_si (rv_si (rv_si (rv_si (rv_si (rv_si (rv_si (rv_si (F.2.1 13709 117 rfl rfl)))))))))))))))))))))))))))))) ?_
      refine x_iload (x := 24) rfl rfl ?_
      refine x_iconst (v := (-1)) rfl ki_m1 ?_
      refine y_iast (N := 40) 24 rfl (sh_si (sh_si (sh_si (sh_si (sh_si (sh_si (sh_si (sh_si (sh_si (sh_si (sh_si (sh_si (sh_si (sh_si (sh_si (sh_si (sh_si (sh_si (sh_si (sh_si (sh_si (sh_si (sh_si (sh_si (sh_si (sh_si (sh_si (sh_si (sh_si (F.1 117 (100, 40) rfl rfl)))))))))))))))))))))))))))))) rfl (jinb_of (by decide)) (by decide) ?_
      refine x_iinc (x := 24) (v := 25) (ls' := [(4, .int 25), (0, .ref 107), (1, .int a1), (2, .int a2), (3, .int a3)]) rfl rfl (by decide) rfl rfl ?_
      refine x_goto (tgt := 32) rfl rfl ?_
      refine x_iload (x := 25) rfl rfl ?_
      refine x_bipush (v := 40) rfl kb_40 ?_
      refine x_icge (tgt := 53) rfl rfl (br_f (by decide) ?_)
      refine x_aloadn (x := 107) rfl rfl ?_
      refine x_getR (b := 117) 4 13 rfl f_4_44 rfl (congrArg Prod.fst (sh_si (sh_si (sh_si (sh_si (sh_si (sh_si (sh_si (sh_si (sh_si (sh_si (sh_si (sh_si (sh_si (sh_si (sh_si (sh_si (sh_si (sh_si (sh_si (sh_si (sh_si (sh_si (sh_si (sh_si (sh_si (sh_si (sh_si (sh_si (sh_si (sh_si (F.1 107 (4, 18) rfl rfl)))))))))))))))))))))))))))))))) (rv_si (rv_si (rv_si (rv_si (rv_si (rv_si (rv_si (rv_si (rv_si (rv_si (rv_si (rv_si (rv_si (rv_si (rv_si (rv_si (rv_si (rv_si (rv_si (rv_si (rv_si (rv_si (rv_si (rv_si (rv_si (rv_si (rv_si (rv_si (rv_si (rv_si (F.2.1 13709 117 rfl rfl))))))))))))))))))))))))))))))) ?_
      refine x_iload (x := 25) rfl rfl ?_
      refine x_iconst (v := (-1)) rfl ki_m1 ?_
      refine y_iast (N := 40) 25 rfl (sh_si (sh_si (sh_si (sh_si (sh_si (sh_si (sh_si (sh_si (sh_si (sh_si (sh_si (sh_si (sh_si (sh_si (sh_si (sh_si (sh_si (sh_si (sh_si (sh_si (sh_si (sh_si (sh_si (sh_si (sh_si (sh_si (sh_si (sh_si (sh_si (sh_si (F.1 117 (100, 40) rfl rfl))))))))))))))))))))))))))))))) rfl (jinb_of (by decide)) (by decide) ?_
      refine x_iinc (x := 25) (v := 26) (ls' := [(4, .int 26), (0, .ref 107), (1, .int a1), (2, .int a2), (3, .int a3)]) rfl rfl (by decide) rfl rfl ?_
      refine x_goto (tgt := 32) rfl rfl ?_
      refine x_iload (x := 26) rfl rfl ?_
      refine x_bipush (v := 40) rfl kb_40 ?_
      refine x_icge (tgt := 53) rfl rfl (br_f (by decide) ?_)
      refine x_aloadn (x := 107) rfl rfl ?_
      refine x_getR (b := 117) 4 13 rfl f_4_44 rfl (congrArg Prod.fst (sh_si (sh_si (sh_si (sh_si (sh_si (sh_si (sh_si (sh_si (sh_si (sh_si (sh_si (sh_si (sh_si (sh_si (sh_si (sh_si (sh_si (sh_si (sh_si (sh_si (sh_si (sh_si (sh_si (sh_si (sh_si (sh_si (sh_si (sh_si (sh_si (sh_si (sh_si (F.1 107 (4, 18) rfl rfl))))))))))))))))))))))))))))))))) (rv_si (rv_si (rv_si (rv_si (rv_si (rv_si (rv_si (rv_si (rv_si (rv_si (rv_si (rv_si (rv_si (rv_si (rv_si (rv_si (rv_si (rv_si (rv_si (rv_si (rv_si (rv_si (rv_si (rv_si (rv_si (rv_si (rv_si (rv_si (rv_si (rv_si (rv_si (F.2.1 13709 117 rfl rfl)))))))))))))))))))))))))))))))) ?_
      refine x_iload (x := 26) rfl rfl ?_
      refine x_iconst (v := (-1)) rfl ki_m1 ?_
      refine y_iast (N := 40) 26 rfl (sh_si (sh_si (sh_si (sh_si (sh_si (sh_si (sh_si (sh_si (sh_si (sh_si (sh_si (sh_si (sh_si (sh_si (sh_si (sh_si (sh_si (sh_si (sh_si (sh_si (sh_si (sh_si (sh_si (sh_si (sh_si (sh_si (sh_si (sh_si (sh_si (sh_si (sh_si (F.1 117 (100, 40) rfl rfl)))))))))))))))))))))))))))))))) rfl (jinb_of (by decide)) (by decide) ?_
      refine x_iinc (x := 26) (v := 27) (ls' := [(4, .int 27), (0, .ref 107), (1, .int a1), (2, .int a2), (3, .int a3)]) rfl rfl (by decide) rfl rfl ?_
      refine x_goto (tgt := 32) rfl rfl ?_
      refine x_iload (x := 27) rfl rfl ?_
      refine x_bipush (v := 40) rfl kb_40 ?_
      refine x_icge (tgt := 53) rfl rfl (br_f (by decide) ?_)
      refine x_aloadn (x := 107) rfl rfl ?_
      refine x_getR (b := 117) 4 13 rfl f_4_44 rfl (congrArg Prod.fst (sh_si (sh_si (sh_si (sh_si (sh_si (sh_si (sh_si (sh_si (sh_si (sh_si (sh_si (sh_si (sh_si (sh_si (sh_si (sh_si (sh_si (sh_si (sh_si (sh_si (sh_si (sh_si (sh_si (sh_si (sh_si (sh_si (sh_si (sh_si (sh_si (sh_si (sh_si (sh_si (F.1 107 (4, 18) rfl rfl)))))))))))))))))))))))))))))))))) (rv_si (rv_si (rv_si (rv_si (rv_si (rv_si (rv_si (rv_si (rv_si (rv_si (rv_si (rv_si (rv_si (rv_si (rv_si (rv_si (rv_si (rv_si (rv_si (rv_si (rv_si (rv_si (rv_si (rv_si (rv_si (rv_si (rv_si (rv_si (rv_si (rv_si (rv_si (rv_si (F.2.1 13709 117 rfl rfl))))))))))))))))))))))))))))))))) ?_
      refine x_iload (x := 27) rfl rfl ?_
      refine x_iconst (v := (-1)) rfl ki_m1 ?_
      refine y_iast (N := 40) 27 rfl (sh_si (sh_si (sh_si (sh_si (sh_si (sh_si (sh_si (sh_si (sh_si (sh_si (sh_si (sh_si (sh_si (sh_si (sh_si (sh_si (sh_si (sh_si (sh_si (sh_si (sh_si (sh_si (sh_si (sh_si (sh_si (sh_si (sh_si (sh_si (sh_si (sh_si (sh_si (sh_si (F.1 117 (100, 40) rfl rfl))))))))))))))))))))))))))))))))) rfl (jinb_of (by decide)) (by decide) ?_
      refine x_iinc (x := 27) (v := 28) (ls' := [(4, .int 28), (0, .ref 107), (1, .int a1), (2, .int a2), (3, .int a3)]) rfl rfl (by decide) rfl rfl ?_
      refine x_goto (tgt := 32) rfl rfl ?_
      refine x_iload (x := 28) rfl rfl ?_
      refine x_bipush (v := 40) rfl kb_40 ?_
      refine x_icge (tgt := 53) rfl rfl (br_f (by decide) ?_)
      refine x_aloadn (x := 107) rfl rfl ?_
      refine x_getR (b := 117) 4 13 rfl f_4_44 rfl (congrArg Prod.fst (sh_si (sh_si (sh_si (sh_si (sh_si (sh_si (sh_si (sh_si (sh_si (sh_si (sh_si (sh_si (sh_si (sh_si (sh_si (sh_si (sh_si (sh_si (sh_si (sh_si (sh_si (sh_si (sh_si (sh_si (sh_si (sh_si (sh_si (sh_si (sh_si (sh_si (sh_si (sh_si (sh_si (F.1 107 (4, 18) rfl rfl))))))))))))))))))))))))))))))))))) (rv_si (rv_si (rv_si (rv_si (rv_si (rv_si (rv_si (rv_si (rv_si (rv_si (rv_si (rv_si (rv_si (rv_si (rv_si (rv_si (rv_si (rv_si (rv_si (rv_si (rv_si (rv_si (rv_si (rv_si (rv_si (rv_si (rv_si (rv_si (rv_si (rv_si (rv_si (rv_si (rv_si (F.2.1 13709 117 rfl rfl)))))))))))))))))))))))))))))))))) ?_
      refine x_iload (x := 28) rfl rfl ?_
      refine x_iconst (v := (-1)) rfl ki_m1 ?_
      refine y_iast (N := 40) 28 rfl (sh_si (sh_si (sh_si (sh_si (sh_si (sh_si (sh_si (sh_si (sh_si (sh_si (sh_si (sh_si (sh_si (sh_si (sh_si (sh_si (sh_si (sh_si (sh_si (sh_si (sh_si (sh_si (sh_si (sh_si (sh_si (sh_si (sh_si (sh_si (sh_si (sh_si (sh_si (sh_si (sh_si (F.1 117 (100, 40) rfl rfl)))))))))))))))))))))))))))))))))) rfl (jinb_of (by decide)) (by decide) ?_
      refine x_iinc (x := 28) (v := 29) (ls' := [(4, .int 29), (0, .ref 107), (1, .int a1), (2, .int a2), (3, .int a3)]) rfl rfl (by decide) rfl rfl ?_
      refine x_goto (tgt := 32) rfl rfl ?_
      refine x_iload (x := 29) rfl rfl ?_
      refine x_bipush (v := 40) rfl kb_40 ?_
      refine x_icge (tgt := 53) rfl rfl (br_f (by decide) ?_)
      refine x_aloadn (x := 107) rfl rfl ?_
      refine x_getR (b := 117) 4 13 rfl f_4_44 rfl (congrArg Prod.fst (sh_si (sh_si (sh_si (sh_si (sh_si (sh_si (sh_si (sh_si (sh_si (sh_si (sh_si (sh_si (sh_si (sh_si (sh_si (sh_si (sh_si (sh_si (sh_si (sh_si (sh_si (sh_si (sh_si (sh_si (sh_si (sh_si (sh_si (sh_si (sh_si (sh_si (sh_si (sh_si (sh_si (sh_si (F.1 107 (4, 18) rfl rfl)))))))))))))))))))))))))))))))))))) (rv_si (rv_si (rv_si (rv_si (rv_si (rv_si (rv_si (rv_si (rv_si (rv_si (rv_si (rv_si (rv_si (rv_si (rv_si (rv_si (rv_si (rv_si (rv_si (rv_si (rv_si (rv_si (rv_si (rv_si (rv_si (rv_si (rv_si (rv_si (rv_si (rv_si (rv_si (rv_si (rv_si (rv_si (F.2.1 13709 117 rfl rfl))))))))))))))))))))))))))))))))))) ?_
      refine x_iload (x := 29) rfl rfl ?_
      refine x_iconst (v := (-1)) rfl ki_m1 ?_
      refine y_iast (N := 40) 29 rfl (sh_si (sh_si (sh_si (sh_si (sh_si (sh_si (sh_si (sh_si (sh_si (sh_si (sh_si (sh_si (sh_si (sh_si (sh_si (sh_si (sh_si (sh_si (sh_si (sh_si (sh_si (sh_si (sh_si (sh_si (sh_si (sh_si (sh_si (sh_si (sh_si (sh_si (sh_si (sh_si (sh_si (sh_si (F.1 117 (100, 40) rfl rfl))))))))))))))))))))))))))))))))))) rfl (jinb_of (by decide)) (by decide) ?_
      refine x_iinc (x := 29) (v := 30) (ls' := [(4, .int 30), (0, .ref 107), (1, .int a1), (2, .int a2), (3, .int a3)]) rfl rfl (by decide) rfl rfl ?_
      refine x_goto (tgt := 32) rfl rfl ?_
      refine x_iload (x := 30) rfl rfl ?_
      refine x_bipush (v := 40) rfl kb_40 ?_
      refine x_icge (tgt := 53) rfl rfl (br_f (by decide) ?_)
      refine x_aloadn (x := 107) rfl rfl ?_
      refine x_getR (b := 117) 4 13 rfl f_4_44 rfl (congrArg Prod.fst (sh_si (sh_si (sh_si (sh_si (sh_si (sh_si (sh_si (sh_si (sh_si (sh_si (sh_si (sh_si (sh_si (sh_si (sh_si (sh_si (sh_si (sh_si (sh_si (sh_si (sh_si (sh_si (sh_si (sh_si (sh_si (sh_si (sh_si (sh_si (sh_si (sh_si (sh_si (sh_si (sh_si (sh_si (sh_si (F.1 107 (4, 18) rfl rfl))))))))))))))))))))))))))))))))))))) (rv_si (rv_si (rv_si (rv_si (rv_si (rv_si (rv_si (rv_si (rv_si (rv_si (rv_si (rv_si (rv_si (rv_si (rv_si (rv_si (rv_si (rv_si (rv_si (rv_si (rv_si (rv_si (rv_si (rv_si (rv_si (rv_si (rv_si (rv_si (rv_si (rv_si (rv_si (rv_si (rv_si (rv_si (rv_si (F.2.1 13709 117 rfl rfl)))))))))))))))))))))))))))))))))))) ?_
      refine x_iload (x := 30) rfl rfl ?_
      refine x_iconst (v := (-1)) rfl ki_m1 ?_
      refine y_iast (N := 40) 30 rfl (sh_si (sh_si (sh_si (sh_si (sh_si (sh_si (sh_si (sh_si (sh_si (sh_si (sh_si (sh_si (sh_si (sh_si (sh_si (sh_si (sh_si (sh_si (sh_si (sh_si (sh_si (sh_si (sh_si (sh_si (sh_si (sh_si (sh_si (sh_si (sh_si (sh_si (sh_si (sh_si (sh_si (sh_si (sh_si (F.1 117 (100, 40) rfl rfl)))))))))))))))))))))))))))))))))))) rfl (jinb_of (by decide)) (by decide) ?_
      refine x_iinc (x := 30) (v := 31) (ls' := [(4, .int 31), (0, .ref 107), (1, .int a1), (2, .int a2), (3, .int a3)]) rfl rfl (by decide) rfl rfl ?_
      refine x_goto (tgt := 32) rfl rfl ?_
      refine x_iload (x := 31) rfl rfl ?_
      refine x_bipush (v := 40) rfl kb_40 ?_
      refine x_icge (tgt := 53) rfl rfl (br_f (by decide) ?_)
      refine x_aloadn (x := 107) rfl rfl ?_
      refine x_getR (b := 117) 4 13 rfl f_4_44 rfl (congrArg Prod.fst (sh_si (sh_si (sh_si (sh_si (sh_si (sh_si (sh_si (sh_si (sh_si (sh_si (sh_si (sh_si (sh_si (sh_si (sh_si (sh_si (sh_si (sh_si (sh_si (sh_si (sh_si (sh_si (sh_si (sh_si (sh_si (sh_si (sh_si (sh_si (sh_si (sh_si (sh_si (sh_si (sh_si (sh_si (sh_si (sh_si (F.1 107 (4, 18) rfl rfl)))))))))))))))))))))))))))))))))))))) (rv_si (rv_si (rv_si (rv_si (rv_si (rv_si (rv_si (rv_si (rv_si (rv_si (rv_si (rv_si (rv_si (rv_si (rv_si (rv_si (rv_si (rv_si (rv_si (rv_si (rv_si (rv_si (rv_si (rv_si (rv_si (rv_si (rv_si (rv_si (rv_si (rv_si (rv_si (rv_si (rv_si (rv_si (rv_si (rv_si (F.2.1 13709 117 rfl rfl))))))))))))))))))))))))))))))))))))) ?_
      refine x_iload (x := 31) rfl rfl ?_
      refine x_iconst (v := (-1)) rfl ki_m1 ?_
      refine y_iast (N := 40) 31 rfl (sh_si (sh_si (sh_si (sh_si (sh_si (sh_si (sh_si (sh_si (sh_si (sh_si (sh_si (sh_si (sh_si (sh_si (sh_si (sh_si (sh_si (sh_si (sh_si (sh_si (sh_si (sh_si (sh_si (sh_si (sh_si (sh_si (sh_si (sh_si (sh_si (sh_si (sh_si (sh_si (sh_si (sh_si (sh_si (sh_si (F.1 117 (100, 40) rfl rfl))))))))))))))))))))))))))))))))))))) rfl (jinb_of (by decide)) (by decide) ?_
      refine x_iinc (x := 31) (v := 32) (ls' := [(4, .int 32), (0, .ref 107), (1, .int a1), (2, .int a2), (3, .int a3)]) rfl rfl (by decide) rfl rfl ?_
      refine x_goto (tgt := 32) rfl rfl ?_
      refine x_iload (x := 32) rfl rfl ?_
      refine x_bipush (v := 40) rfl kb_40 ?_
      refine x_icge (tgt := 53) rfl rfl (br_f (by decide) ?_)
      refine x_aloadn (x := 107) rfl rfl ?_
      refine x_getR (b := 117) 4 13 rfl f_4_44 rfl (congrArg Prod.fst (sh_si (sh_si (sh_si (sh_si (sh_si (sh_si (sh_si (sh_si (sh_si (sh_si (sh_si (sh_si (sh_si (sh_si (sh_si (sh_si (sh_si (sh_si (sh_si (sh_si (sh_si (sh_si (sh_si (sh_si (sh_si (sh_si (sh_si (sh_si (sh_si (sh_si (sh_si (sh_si (sh_si (sh_si (sh_si (sh_si (sh_si (F.1 107 (4, 18) rfl rfl))))))))))))))))))))))))))))))))))))))) (rv_si (rv_si (rv_si (rv_si (rv_si (rv_si (rv_si (rv_si (rv_si (rv_si (rv_si (rv_si (rv_si (rv_si (rv_si (rv_si (rv_si (rv_si (rv_si (rv_si (rv_si (rv_si (rv_si (rv_si (rv_si (rv_si (rv_si (rv_si (rv_si (rv_si (rv_si (rv_si (rv_si (rv_si (rv_si (rv_si (rv_si (F.2.1 13709 117 rfl rfl)))))))))))))))))))))))))))))))))))))) ?_
      refine x_iload (x := 32) rfl rfl ?_
      refine x_iconst (v := (-1)) rfl ki_m1 ?_
      refine y_iast (N := 40) 32 rfl (sh_si (sh_si (sh_si (sh_si (sh_si (sh_si (sh_si (sh_si (sh_si (sh_si (sh_si (sh_si (sh_si (sh_si (sh_si (sh_si (sh_si (sh_si (sh_si (sh_si (sh_si (sh_si (sh_si (sh_si (sh_si (sh_si (sh_si (sh_si (sh_si (sh_si (sh_si (sh_si (sh_si (sh_si (sh_si (sh_si (sh_si (F.1 117 (100, 40) rfl rfl)))))))))))))))))))))))))))))))))))))) rfl (jinb_of (by decide)) (by decide) ?_
      refine x_iinc (x := 32) (v := 33) (ls' := [(4, .int 33), (0, .ref 107), (1, .int a1), (2, .int a2), (3, .int a3)]) rfl rfl (by decide) rfl rfl ?_
      refine x_goto (tgt := 32) rfl rfl ?_
      refine x_iload (x := 33) rfl rfl ?_
      refine x_bipush (v := 40) rfl kb_40 ?_
      refine x_icge (tgt := 53) rfl rfl (br_f (by decide) ?_)
      refine x_aloadn (x := 107) rfl rfl ?_
      refine x_getR (b := 117) 4 13 rfl f_4_44 rfl (congrArg Prod.fst (sh_si (sh_si (sh_si (sh_si (sh_si (sh_si (sh_si (sh_si (sh_si (sh_si (sh_si (sh_si (sh_si (sh_si (sh_si (sh_si (sh_si (sh_si (sh_si (sh_si (sh_si (sh_si (sh_si (sh_si (sh_si (sh_si (sh_si (sh_si (sh_si (sh_si (sh_si (sh_si (sh_si (sh_si (sh_si (sh_si (sh_si (sh_si (F.1 107 (4, 18) rfl rfl)))))))))))))))))))))))))))))))))))))))) (rv_si (rv_si (rv_si (rv_si (rv_si (rv_si (rv_si (rv_si (rv_si (rv_si (rv_si (rv_si (rv_si (rv_si (rv_si (rv_si (rv_si (rv_si (rv_si (rv_si (rv_si (rv_si (rv_si (rv_si (rv_si (rv_si (rv_si (rv_si (rv_si (rv_si (rv_si (rv_si (rv_si (rv_si (rv_si (rv_si (rv_si (rv_si (F.2.1 13709 117 rfl rfl))))))))))))))))))))))))))))))))))))))) ?_
      refine x_iload (x := 33) rfl rfl ?_
      refine x_iconst (v := (-1)) rfl ki_m1 ?_
      refine y_iast (N := 40) 33 rfl (sh_si (sh_si (sh_si (sh_si (sh_si (sh_si (sh_si (sh_si (sh_si (sh_si (sh_si (sh_si (sh_si (sh_si (sh_si (sh_si (sh_si (sh_si (sh_si (sh_si (sh_si (sh_si (sh_si (sh_si (sh_si (sh_si (sh_si (sh_si (sh_si (sh_si (sh_si (sh_si (sh_si (sh_si (sh_si (sh_si (sh_si (sh_si (F.1 117 (100, 40) rfl rfl))))))))))))))))))))))))))))))))))))))) rfl (jinb_of (by decide)) (by decide) ?_
      refine x_iinc (x := 33) (v := 34) (ls' := [(4, .int 34), (0, .ref 107), (1, .int a1), (2, .int a2), (3, .int a3)]) rfl rfl (by decide) rfl rfl ?_
      refine x_goto (tgt := 32) rfl rfl ?_
      refine x_iload (x := 34) rfl rfl ?_
      refine x_bipush (v := 40) rfl kb_40 ?_
      refine x_icge (tgt := 53) rfl rfl (br_f (by decide) ?_)
      refine x_aloadn (x := 107) rfl rfl ?_
      refine x_getR (b := 117) 4 13 rfl f_4_44 rfl (congrArg Prod.fst (sh_si (sh_si (sh_si (sh_si (sh_si (sh_si (sh_si (sh_si (sh_si (sh_si (sh_si (sh_si (sh_si (sh_si (sh_si (sh_si (sh_si (sh_si (sh_si (sh_si (sh_si (sh_si (sh_si (sh_si (sh_si (sh_si (sh_si (sh_si (sh_si (sh_si (sh_si (sh_si (sh_si (sh_si (sh_si (sh_si (sh_si (sh_si (sh_si (F.1 107 (4, 18) rfl rfl))))))))))))))))))))))))))))))))))))))))) (rv_si (rv_si (rv_si (rv_si (rv_si (rv_si (rv_si (rv_si (rv_si (rv_si (rv_si (rv_si (rv_si (rv_si (rv_si (rv_si (rv_si (rv_si (rv_si (rv_si (rv_si (rv_si (rv_si (rv_si (rv_si (rv_si (rv_si (rv_si (rv_si (rv_si (rv_si (rv_si (rv_si (rv_si (rv_si (rv_si (rv_si (rv_si (rv_si (F.2.1 13709 117 rfl rfl)))))))))))))))))))))))))))))))))))))))) ?_
      refine x_iload (x := 34) rfl rfl ?_
      refine x_iconst (v := (-1)) rfl ki_m1 ?_
      refine y_iast (N := 40) 34 rfl (sh_si (sh_si (sh_si (sh_si (sh_si (sh_si (sh_si (sh_si (sh_si (sh_si (sh_si (sh_si (sh_si (sh_si (sh_si (sh_si (sh_si (sh_si (sh_si (sh_si (sh_si (sh_si (sh_si (sh_si (sh_si (sh_si (sh_si (sh_si (sh_si (sh_si (sh_si (sh_si (sh_si (sh_si (sh_si (sh_si (sh_si (sh_si (sh_si (F.1 117 (100, 40) rfl rfl)))))))))))))))))))))))))))))))))))))))) rfl (jinb_of (by decide)) (by decide) ?_
      refine x_iinc (x := 34) (v := 35) (ls' := [(4, .int 35), (0, .ref 107), (1, .int a1), (2, .int a2), (3, .int a3)]) rfl rfl (by decide) rfl rfl ?_
      refine x_goto (tgt := 32) rfl rfl ?_
      refine x_iload (x := 35) rfl rfl ?_
      refine x_bipush (v := 40) rfl kb_40 ?_
      refine x_icge (tgt := 53) rfl rfl (br_f (by decide) ?_)
      refine x_aloadn (x := 107) rfl rfl ?_
      refine x_getR (b := 117) 4 13 rfl f_4_44 rfl (congrArg Prod.fst (sh_si (sh_si (sh_si (sh_si (sh_si (sh_si (sh_si (sh_si (sh_si (sh_si (sh_si (sh_si (sh_si (sh_si (sh_si (sh_si (sh_si (sh_si (sh_si (sh_si (sh_si (sh_si (sh_si (sh_si (sh_si (sh_si (sh_si (sh_si (sh_si (sh_si (sh_si (sh_si (sh_si (sh_si (sh_si (sh_si (sh_si (sh_si (sh_si (sh_si (F.1 107 (4, 18) rfl rfl)))))))))))))))))))))))))))))))))))))))))) (rv_si (rv_si (rv_si (rv_si (rv_si (rv_si (rv_si (rv_si (rv_si (rv_si (rv_si (rv_si (rv_si (rv_si (rv_si (rv_si (rv_si (rv_si (rv_si (rv_si (rv_si (rv_si (rv_si (rv_si (rv_si (rv_si (rv_si (rv_si (rv_si (rv_si (rv_si (rv_si (rv_si (rv_si (rv_si (rv_si (rv_si (rv_si (rv_si (rv_si (F.2.1 13709 117 rfl rfl))))))))))))))))))))))))))))))))))))))))) ?_
      refine x_iload (x := 35) rfl rfl ?_
      refine x_iconst (v := (-1)) rfl ki_m1 ?_
      refine y_iast (N := 40) 35 rfl (sh_si (sh_si (sh_si (sh_si (sh_si (sh_si (sh_si (sh_si (sh_si (sh_si (sh_si (sh_si (sh_si (sh_si (sh_si (sh_si (sh_si (sh_si (sh_si (sh_si (sh_si (sh_si (sh_si (sh_si (sh_si (sh_si (sh_si (sh_si (sh_si (sh_si (sh_si (sh_si (sh_si (sh_si (sh_si (sh_si (sh_si (sh_si (sh_si (sh_si (F.1 117 (100, 40) rfl rfl))))))))))))))))))))))))))))))))))))))))) rfl (jinb_of (by decide)) (by decide) ?_
      refine x_iinc (x := 35) (v := 36) (ls' := [(4, .int 36), (0, .ref 107), (1, .int a1), (2, .int a2), (3, .int a3)]) rfl rfl (by decide) rfl rfl ?_
      refine x_goto (tgt := 32) rfl rfl ?_
      refine x_iload (x := 36) rfl rfl ?_
      refine x_bipush (v := 40) rfl kb_40 ?_
      refine x_icge (tgt := 53) rfl rfl (br_f (by decide) ?_)
      refine x_aloadn (x := 107) rfl rfl ?_
      refine x_getR (b := 117) 4 13 rfl f_4_44 rfl (congrArg Prod.fst (sh_si (sh_si (sh_si (sh_si (sh_si (sh_si (sh_si (sh_si (sh_si (sh_si (sh_si (sh_si (sh_si (sh_si (sh_si (sh_si (sh_si (sh_si (sh_si (sh_si (sh_si (sh_si (sh_si (sh_si (sh_si (sh_si (sh_si (sh_si (sh_si (sh_si (sh_si (sh_si (sh_si (sh_si (sh_si (sh_si (sh_si (sh_si (sh_si (sh_si (sh_si (F.1 107 (4, 18) rfl rfl))))))))))))))))))))))))))))))))))))))))))) (rv_si (rv_si (rv_si (rv_si (rv_si (rv_si (rv_si (rv_si (rv_si (rv_si (rv_si (rv_si (rv_si (rv_si (rv_si (rv_si (rv_si (rv_si (rv_si (rv_si (rv_si (rv_si (rv_si (rv_si (rv_si (rv_si (rv_si (rv_si (rv_si (rv_si (rv_si (rv_si (rv_si (rv_si (rv_si (rv_si (rv_si (rv_si (rv_si (rv_si (rv_si (F.2.1 13709 117 rfl rfl)))))))))))))))))))))))))))))))))))))))))) ?_
      refine x_iload (x := 36) rfl rfl ?_
      refine x_iconst (v := (-1)) rfl ki_m1 ?_
      refine y_iast (N := 40) 36 rfl (sh_si (sh_si (sh_si (sh_si (sh_si (sh_si (sh_si (sh_si (sh_si (sh_si (sh_si (sh_si (sh_si (sh_si (sh_si (sh_si (sh_si (sh_si (sh_si (sh_si (sh_si (sh_si (sh_si (sh_si (sh_si (sh_si (sh_si (sh_si (sh_si (sh_si (sh_si (sh_si (sh_si (sh_si (sh_si (sh_si (sh_si (sh_si (sh_si (sh_si (sh_si (F.1 117 (100, 40) rfl rfl)))))))))))))))))))))))))))))))))))))))))) rfl (jinb_of (by decide)) (by decide) ?_
      refine x_iinc (x := 36) (v := 37) (ls' := [(4, .int 37), (0, .ref 107), (1, .int a1), (2, .int a2), (3, .int a3)]) rfl rfl (by decide) rfl rfl ?_
      refine x_goto (tgt := 32) rfl rfl ?_
      refine x_iload (x := 37) rfl rfl ?_
      refine x_bipush (v := 40) rfl kb_40 ?_
      refine x_icge (tgt := 53) rfl rfl (br_f (by decide) ?_)
      refine x_aloadn (x := 107) rfl rfl ?_
      refine x_getR (b := 117) 4 13 rfl f_4_44 rfl (congrArg Prod.fst (sh_si (sh_si (sh_si (sh_si (sh_si (sh_si (sh_si (sh_si (sh_si (sh_si (sh_si (sh_si (sh_si (sh_si (sh_si (sh_si (sh_si (sh_si (sh_si (sh_si (sh_si (sh_si (sh_si (sh_si (sh_si (sh_si (sh_si (sh_si (sh_si (sh_si (sh_si (sh_si (sh_si (sh_si (sh_si (sh_si (sh_si (sh_si (sh_si (sh_si (sh_si (sh_si (F.1 107 (4, 18) rfl rfl)))))))))))))))))))))))))))))))))))))))))))) (rv_si (rv_si (rv_si (rv_si (rv_si (rv_si (rv_si (rv_si (rv_si (rv_si (rv_si (rv_si (rv_si (rv_si (rv_si (rv_si (rv_si (rv_si (rv_si (rv_si (rv_si (rv_si (rv_si (rv_si (rv_si (rv_si (rv_si (rv_si (rv_si (rv_si (rv_si (rv_si (rv_si (rv_si (rv_si (rv_si (rv_si (rv_si (rv_si (rv_si (rv_si (rv_si (F.2.1 13709 117 rfl rfl))))))))))))))))))))))))))))))))))))))))))) ?_
      refine x_iload (x := 37) rfl rfl ?_
      refine x_iconst (v := (-1)) rfl ki_m1 ?_
      refine y_iast (N := 40) 37 rfl (sh_si (sh_si (sh_si (sh_si (sh_si (sh_si (sh_si (sh_si (sh_si (sh_si (sh_si (sh_si (sh_si (sh_si (sh_si (sh_si (sh_si (sh_si (sh_si (sh_si (sh_si (sh_si (sh_si (sh_si (sh_si (sh_si (sh_si (sh_si (sh_si (sh_si (sh_si (sh_si (sh_si (sh_si (sh_si (sh_si (sh_si (sh_si (sh_si (sh_si (sh_si (sh_si (F.1 117 (100, 40) rfl rfl))))))))))))))))))))))))))))))))))))))))))) rfl (jinb_of (by decide)) (by decide) ?_
      refine x_iinc (x := 37) (v := 38) (ls' := [(4, .int 38), (0, .ref 107), (1, .int a1), (2, .int a2), (3, .int a3)]) rfl rfl (by decide) rfl rfl ?_
      refine x_goto (tgt := 32) rfl rfl ?_
      refine x_iload (x := 38) rfl rfl ?_
      refine x_bipush (v := 40) rfl kb_40 ?_
      refine x_icge (tgt := 53) rfl rfl (br_f (by decide) ?_)
      refine x_aloadn (x := 107) rfl rfl ?_
      refine x_getR (b := 117) 4 13 rfl f_4_44 rfl (congrArg Prod.fst (sh_si (sh_si (sh_si (sh_si (sh_si (sh_si (sh_si (sh_si (sh_si (sh_si (sh_si (sh_si (sh_si (sh_si (sh_si (sh_si (sh_si (sh_si (sh_si (sh_si (sh_si (sh_si (sh_si (sh_si (sh_si (sh_si (sh_si (sh_si (sh_si (sh_si (sh_si (sh_si (sh_si (sh_si (sh_si (sh_si (sh_si (sh_si (sh_si (sh_si (sh_si (sh_si (sh_si (F.1 107 (4, 18) rfl rfl))))))))))))))))))))))))))))))))))))))))))))) (rv_si (rv_si (rv_si (rv_si (rv_si (rv_si (rv_si (rv_si (rv_si (rv_si (rv_si (rv_si (rv_si (rv_si (rv_si (rv_si (rv_si (rv_si (rv_si (rv_si (rv_si (rv_si (rv_si (rv_si (rv_si (rv_si (rv_si (rv_si (rv_si (rv_si (rv_si (rv_si (rv_si (rv_si (rv_si (rv_si (rv_si (rv_si (rv_si (rv_si (rv_si (rv_si (rv_si (F.2.1 13709 117 rfl rfl)))))))))))))))))))))))))))))))))))))))))))) ?_
      refine x_iload (x := 38) rfl rfl ?_
      refine x_iconst (v := (-1)) rfl ki_m1 ?_
      refine y_iast (N := 40) 38 rfl (sh_si (sh_si (sh_si (sh_si (sh_si (sh_si (sh_si (sh_si (sh_si (sh_si (sh_si (sh_si (sh_si (sh_si (sh_si (sh_si (sh_si (sh_si (sh_si (sh_si (sh_si (sh_si (sh_si (sh_si (sh_si (sh_si (sh_si (sh_si (sh_si (sh_si (sh_si (sh_si (sh_si (sh_si (sh_si (sh_si (sh_si (sh_si (sh_si (sh_si (sh_si (sh_si (sh_si (F.1 117 (100, 40) rfl rfl)))))))))))))))))))))))))))))))))))))))))))) rfl (jinb_of (by decide)) (by decide) ?_
      refine x_iinc (x := 38) (v := 39) (ls' := [(4, .int 39), (0, .ref 107), (1, .int a1), (2, .int a2), (3, .int a3)]) rfl rfl (by decide) rfl rfl ?_
      refine x_goto (tgt := 32) rfl rfl ?_
      refine x_iload (x := 39) rfl rfl ?_
      refine x_bipush (v := 40) rfl kb_40 ?_
      refine x_icge (tgt := 53) rfl rfl (br_f (by decide) ?_)
      refine x_aloadn (x := 107) rfl rfl ?_
      refine x_getR (b := 117) 4 13 rfl f_4_44 rfl (congrArg Prod.fst (sh_si (sh_si (sh_si (sh_si (sh_si (sh_si (sh_si (sh_si (sh_si (sh_si (sh_si (sh_si (sh_si (sh_si (sh_si (sh_si (sh_si (sh_si (sh_si (sh_si (sh_si (sh_si (sh_si (sh_si (sh_si (sh_si (sh_si (sh_si (sh_si (sh_si (sh_si (sh_si (sh_si (sh_si (sh_si (sh_si (sh_si (sh_si (sh_si (sh_si (sh_si (sh_si (sh_si (sh_si (F.1 107 (4, 18) rfl rfl)))))))))))))))))))))))))))))))))))))))))))))) (rv_si (rv_si (rv_si (rv_si (rv_si (rv_si (rv_si (rv_si (rv_si (rv_si (rv_si (rv_si (rv_si (rv_si (rv_si (rv_si (rv_si (rv_si (rv_si (rv_si (rv_si (rv_si (rv_si (rv_si (rv_si (rv_si (rv_si (rv_si (rv_si (rv_si (rv_si (rv_si (rv_si (rv_si (rv_si (rv_si (rv_si (rv_si (rv_si (rv_si (rv_si (rv_si (rv_si (rv_si (F.2.1 13709 117 rfl rfl))))))))))))))))))))))))))))))))))))))))))))) ?_
      refine x_iload (x := 39) rfl rfl ?_
      refine x_iconst (v := (-1)) rfl ki_m1 ?_
      refine y_iast (N := 40) 39 rfl (sh_si (sh_si (sh_si (sh_si (sh_si (sh_si (sh_si (sh_si (sh_si (sh_si (sh_si (sh_si (sh_si (sh_si (sh_si (sh_si (sh_si (sh_si (sh_si (sh_si (sh_si (sh_si (sh_si (sh_si (sh_si (sh_si (sh_si (sh_si (sh_si (sh_si (sh_si (sh_si (sh_si (sh_si (sh_si (sh_si (sh_si (sh_si (sh_si (sh_si (sh_si (sh_si (sh_si (sh_si (F.1 117 (100, 40) rfl rfl))))))))))))))))))))))))))))))))))))))))))))) rfl (jinb_of (by decide)) (by decide) ?_
      refine x_iinc (x := 39) (v := 40) (ls' := [(4, .int 40), (0, .ref 107), (1, .int a1), (2, .int a2), (3, .int a3)]) rfl rfl (by decide) rfl rfl ?_
      refine x_goto (tgt := 32) rfl rfl ?_
      refine x_iload (x := 40) rfl rfl ?_
      refine x_bipush (v := 40) rfl kb_40 ?_
      refine x_icge (tgt := 53) rfl rfl (br_t (by decide) ?_)
      exact ct_run ha (fun m h e T => hQ h m e T) (a2.toInt + 1).toNat 0 (by omega) _ _ ⟨(jFe_sa rfl rfl (jFe_sa rfl rfl (jFe_sa rfl rfl (jFe_sa rfl rfl (jFe_sa rfl rfl (jFe_sa rfl rfl (jFe_sa rfl rfl (jFe_sa rfl rfl (jFe_sa rfl rfl (jFe_sa rfl rfl (jFe_sa rfl rfl (jFe_sa rfl rfl (jFe_sa rfl rfl (jFe_sa rfl rfl (jFe_sa rfl rfl (jFe_sa rfl rfl (jFe_sa rfl rfl (jFe_sa rfl rfl (jFe_sa rfl rfl (jFe_sa rfl rfl (jFe_sa rfl rfl (jFe_sa rfl rfl (jFe_sa rfl rfl (jFe_sa rfl rfl (jFe_sa rfl rfl (jFe_sa rfl rfl (jFe_sa rfl rfl (jFe_sa rfl rfl (jFe_sa rfl rfl (jFe_sa rfl rfl (jFe_sa rfl rfl (jFe_sa rfl rfl (jFe_sa rfl rfl (jFe_sa rfl rfl (jFe_sa rfl rfl (jFe_sa rfl rfl (jFe_sa rfl rfl (jFe_sa rfl rfl (jFe_sa rfl rfl (jFe_sa rfl rfl (jFe_sf rfl rfl rfl (jFe_sf rfl rfl rfl (jFe_sa rfl rfl (jFe_sa rfl rfl (jFe_sa rfl rfl (jFe_up rfl rfl F)))))))))))))))))))))))))))))))))))))))))))))), (jFb_si rfl (jFb_si rfl (jFb_si rfl (jFb_si rfl (jFb_si rfl (jFb_si rfl (jFb_si rfl (jFb_si rfl (jFb_si rfl (jFb_si rfl (jFb_si rfl (jFb_si rfl (jFb_si rfl (jFb_si rfl (jFb_si rfl (jFb_si rfl (jFb_si rfl (jFb_si rfl (jFb_si rfl (jFb_si rfl (jFb_si rfl (jFb_si rfl (jFb_si rfl (jFb_si rfl (jFb_si rfl (jFb_si rfl (jFb_si rfl (jFb_si rfl (jFb_si rfl (jFb_si rfl (jFb_si rfl (jFb_si rfl (jFb_si rfl (jFb_si rfl (jFb_si rfl (jFb_si rfl (jFb_si rfl (jFb_si rfl (jFb_si rfl (jFb_si rfl (jFb_si rfl (jFb_si rfl (jFb_si rfl (jFb_si rfl (jFb_si rfl FM))))))))))))))))))))))))))))))))))))))))))))), (jOl_si rfl (jOl_si rfl (jOl_si rfl (jOl_si rfl (jOl_si rfl (jOl_si rfl (jOl_si rfl (jOl_si rfl (jOl_si rfl (jOl_si rfl (jOl_si rfl (jOl_si rfl (jOl_si rfl (jOl_si rfl (jOl_si rfl (jOl_si rfl (jOl_si rfl (jOl_si rfl (jOl_si rfl (jOl_si rfl (jOl_si rfl (jOl_si rfl (jOl_si rfl (jOl_si rfl (jOl_si rfl (jOl_si rfl (jOl_si rfl (jOl_si rfl (jOl_si rfl (jOl_si rfl (jOl_si rfl (jOl_si rfl (jOl_si rfl (jOl_si rfl (jOl_si rfl (jOl_si rfl (jOl_si rfl (jOl_si rfl (jOl_si rfl (jOl_si rfl (jOl_si rfl (jOl_si rfl (jOl_si rfl (jOl_si rfl (jOl_si rfl O))))))))))))))))))))))))))))))))))))))))))))), (iv_si rfl (iv_si rfl (iv_si rfl (iv_si rfl (iv_si rfl (iv_si rfl (iv_si rfl (iv_si rfl (iv_si rfl (iv_si rfl (iv_si rfl (iv_si rfl (iv_si rfl (iv_si rfl (iv_si rfl (iv_si rfl (iv_si rfl (iv_si rfl (iv_si rfl (iv_si rfl (iv_si rfl (iv_si rfl (iv_si rfl (iv_si rfl (iv_si rfl (iv_si rfl (iv_si rfl (iv_si rfl (iv_si rfl (iv_si rfl (iv_si rfl (iv_si rfl (iv_si rfl (iv_si rfl (iv_si rfl (iv_si rfl (iv_si rfl (iv_si rfl (iv_si rfl (iv_si rfl (iv_si rfl iv_eq))))))))))))))))))))))))))))))))))))))))), jarr0, jarr0⟩
    ·
      refine x_aloadn (x := 119) rfl rfl ?_
      refine x_iconst (v := 2) rfl ki_2 ?_
      refine y_iald (v := 0) (N := 3) 2 rfl (F.1 119 (100, 3) rfl rfl) (jinb_of (by decide)) (by decide) (F.2.2.2.1 119 rfl rfl rfl 2).1 ?_
      refine x_iloadn (x := 1) rfl rfl ?_
      refine x_icne (tgt := 33) rfl rfl (bn_t (by decide) ?_)
      refine x_iconst (v := 0) rfl ki_0 ?_
      refine x_istore (ls' := [(4, .int 0), (0, .ref 119), (1, .int a1), (2, .int a3), (3, .int 1)]) rfl rfl rfl ?_
      refine x_aloadn (x := 119) rfl rfl ?_
      refine x_iconst (v := 0) rfl ki_0 ?_
      refine x_iloadn (x := a1) rfl rfl ?_
      refine y_iast (N := 3) 0 rfl (F.1 119 (100, 3) rfl rfl) rfl (jinb_of (by decide)) (by decide) ?_
      refine x_aloadn (x := 119) rfl rfl ?_
      refine x_iconst (v := 1) rfl ki_1 ?_
      refine x_iloadn (x := a3) rfl rfl ?_
      refine y_iast (N := 3) 1 rfl (sh_si (F.1 119 (100, 3) rfl rfl)) rfl (jinb_of (by decide)) (by decide) ?_
      refine x_aloadn (x := 119) rfl rfl ?_
      refine x_iconst (v := 2) rfl ki_2 ?_
      refine x_iloadn (x := 1) rfl rfl ?_
      refine y_iast (N := 3) 2 rfl (sh_si (sh_si (F.1 119 (100, 3) rfl rfl))) rfl (jinb_of (by decide)) (by decide) ?_
      refine x_iload (x := 0) rfl rfl ?_
      refine x_zret rfl rfl (by first | decide | exact jp_01 _) ?_
      show jX m_X4_runTurns 99 0 0 16 [(0, .ref 107), (1, .int a1), (2, .int a2), (3, .int a3)] [.int 0] _ 0 0 _
      refine x_ifne (tgt := 53) rfl rfl (bn_f (by decide) ?_)
      refine x_aloadn (x := 107) rfl rfl ?_
      refine x_iconst (v := 0) rfl ki_0 ?_
      refine x_putI 4 15 rfl f_4_50 rfl (jfin_no TX4 RX4 18 rfl rfl) (congrArg Prod.fst (sh_si (sh_si (sh_si (F.1 107 (4, 18) rfl rfl))))) rfl ?_
      refine x_aloadn (x := 107) rfl rfl ?_
      refine x_iconst (v := (-1)) rfl ki_m1 ?_
      refine x_putI 4 16 rfl f_4_53 rfl (jfin_no TX4 RX4 18 rfl rfl) (congrArg Prod.fst (sh_si (sh_si (sh_si (sh_si (F.1 107 (4, 18) rfl rfl)))))) rfl ?_
      refine x_iconst (v := 0) rfl ki_0 ?_
      refine x_istore (ls' := [(4, .int 0), (0, .ref 107), (1, .int a1), (2, .int a2), (3, .int a3)]) rfl rfl rfl ?_
      refine x_iload (x := 0) rfl rfl ?_
      refine x_bipush (v := 40) rfl kb_40 ?_
      refine x_icge (tgt := 53) rfl rfl (br_f (by decide) ?_)
      refine x_aloadn (x := 107) rfl rfl ?_
      refine x_getR (b := 117) 4 13 rfl f_4_44 rfl (congrArg Prod.fst (sh_si (sh_si (sh_si (sh_si (sh_si (F.1 107 (4, 18) rfl rfl))))))) (rv_si (rv_si (rv_si (rv_si (rv_si (F.2.1 13709 117 rfl rfl)))))) ?_
      refine x_iload (x := 0) rfl rfl ?_
      refine x_iconst (v := (-1)) rfl ki_m1 ?_
      refine y_iast (N := 40) 0 rfl (sh_si (sh_si (sh_si (sh_si (sh_si (F.1 117 (100, 40) rfl rfl)))))) rfl (jinb_of (by decide)) (by decide) ?_
      refine x_iinc (x := 0) (v := 1) (ls' := [(4, .int 1), (0, .ref 107), (1, .int a1), (2, .int a2), (3, .int a3)]) rfl rfl (by decide) rfl rfl ?_
      refine x_goto (tgt := 32) rfl rfl ?_
      refine x_iload (x := 1) rfl rfl ?_
      refine x_bipush (v := 40) rfl kb_40 ?_
      refine x_icge (tgt := 53) rfl rfl (br_f (by decide) ?_)
      refine x_aloadn (x := 107) rfl rfl ?_
      refine x_getR (b := 117) 4 13 rfl f_4_44 rfl (congrArg Prod.fst (sh_si (sh_si (sh_si (sh_si (sh_si (sh_si (F.1 107 (4, 18) rfl rfl)))))))) (rv_si (rv_si (rv_si (rv_si (rv_si (rv_si (F.2.1 13709 117 rfl rfl))))))) ?_
      refine x_iload (x := 1) rfl rfl ?_
      refine x_iconst (v := (-1)) rfl ki_m1 ?_
      refine y_iast (N := 40) 1 rfl (sh_si (sh_si (sh_si (sh_si (sh_si (sh_si (F.1 117 (100, 40) rfl rfl))))))) rfl (jinb_of (by decide)) (by decide) ?_
      refine x_iinc (x := 1) (v := 2) (ls' := [(4, .int 2), (0, .ref 107), (1, .int a1), (2, .int a2), (3, .int a3)]) rfl rfl (by decide) rfl rfl ?_
      refine x_goto (tgt := 32) rfl rfl ?_
      refine x_iload (x := 2) rfl rfl ?_
      refine x_bipush (v := 40) rfl kb_40 ?_
      refine x_icge (tgt := 53) rfl rfl (br_f (by decide) ?_)
      refine x_aloadn (x := 107) rfl rfl ?_
      refine x_getR (b := 117) 4 13 rfl f_4_44 rfl (congrArg Prod.fst (sh_si (sh_si (sh_si (sh_si (sh_si (sh_si (sh_si (F.1 107 (4, 18) rfl rfl))))))))) (rv_si (rv_si (rv_si (rv_si (rv_si (rv_si (rv_si (F.2.1 13709 117 rfl rfl)))))))) ?_
      refine x_iload (x := 2) rfl rfl ?_
      refine x_iconst (v := (-1)) rfl ki_m1 ?_
      refine y_iast (N := 40) 2 rfl (sh_si (sh_si (sh_si (sh_si (sh_si (sh_si (sh_si (F.1 117 (100, 40) rfl rfl)))))))) rfl (jinb_of (by decide)) (by decide) ?_
      refine x_iinc (x := 2) (v := 3) (ls' := [(4, .int 3), (0, .ref 107), (1, .int a1), (2, .int a2), (3, .int a3)]) rfl rfl (by decide) rfl rfl ?_
      refine x_goto (tgt := 32) rfl rfl ?_
      refine x_iload (x := 3) rfl rfl ?_
      refine x_bipush (v := 40) rfl kb_40 ?_
      refine x_icge (tgt := 53) rfl rfl (br_f (by decide) ?_)
      refine x_aloadn (x := 107) rfl rfl ?_
      refine x_getR (b := 117) 4 13 rfl f_4_44 rfl (congrArg Prod.fst (sh_si (sh_si (sh_si (sh_si (sh_si (sh_si (sh_si (sh_si (F.1 107 (4, 18) rfl rfl)))))))))) (rv_si (rv_si (rv_si (rv_si (rv_si (rv_si (rv_si (rv_si (F.2.1 13709 117 rfl rfl))))))))) ?_
      refine x_iload (x := 3) rfl rfl ?_
      refine x_iconst (v := (-1)) rfl ki_m1 ?_
      refine y_iast (N := 40) 3 rfl (sh_si (sh_si (sh_si (sh_si (sh_si (sh_si (sh_si (sh_si (F.1 117 (100, 40) rfl rfl))))))))) rfl (jinb_of (by decide)) (by decide) ?_
      refine x_iinc (x := 3) (v := 4) (ls' := [(4, .int 4), (0, .ref 107), (1, .int a1), (2, .int a2), (3, .int a3)]) rfl rfl (by decide) rfl rfl ?_
      refine x_goto (tgt := 32) rfl rfl ?_
      refine x_iload (x := 4) rfl rfl ?_
      refine x_bipush (v := 40) rfl kb_40 ?_
      refine x_icge (tgt := 53) rfl rfl (br_f (by decide) ?_)
      refine x_aloadn (x := 107) rfl rfl ?_
      refine x_getR (b := 117) 4 13 rfl f_4_44 rfl (congrArg Prod.fst (sh_si (sh_si (sh_si (sh_si (sh_si (sh_si (sh_si (sh_si (sh_si (F.1 107 (4, 18) rfl rfl))))))))))) (rv_si (rv_si (rv_si (rv_si (rv_si (rv_si (rv_si (rv_si (rv_si (F.2.1 13709 117 rfl rfl)))))))))) ?_
      refine x_iload (x := 4) rfl rfl ?_
      refine x_iconst (v := (-1)) rfl ki_m1 ?_
      refine y_iast (N := 40) 4 rfl (sh_si (sh_si (sh_si (sh_si (sh_si (sh_si (sh_si (sh_si (sh_si (F.1 117 (100, 40) rfl rfl)))))))))) rfl (jinb_of (by decide)) (by decide) ?_
      refine x_iinc (x := 4) (v := 5) (ls' := [(4, .int 5), (0, .ref 107), (1, .int a1), (2, .int a2), (3, .int a3)]) rfl rfl (by decide) rfl rfl ?_
      refine x_goto (tgt := 32) rfl rfl ?_
      refine x_iload (x := 5) rfl rfl ?_
      refine x_bipush (v := 40) rfl kb_40 ?_
      refine x_icge (tgt := 53) rfl rfl (br_f (by decide) ?_)
      refine x_aloadn (x := 107) rfl rfl ?_
      refine x_getR (b := 117) 4 13 rfl f_4_44 rfl (congrArg Prod.fst (sh_si (sh_si (sh_si (sh_si (sh_si (sh_si (sh_si (sh_si (sh_si (sh_si (F.1 107 (4, 18) rfl rfl)))))))))))) (rv_si (rv_si (rv_si (rv_si (rv_si (rv_si (rv_si (rv_si (rv_si (rv_si (F.2.1 13709 117 rfl rfl))))))))))) ?_
      refine x_iload (x := 5) rfl rfl ?_
      refine x_iconst (v := (-1)) rfl ki_m1 ?_
      refine y_iast (N := 40) 5 rfl (sh_si (sh_si (sh_si (sh_si (sh_si (sh_si (sh_si (sh_si (sh_si (sh_si (F.1 117 (100, 40) rfl rfl))))))))))) rfl (jinb_of (by decide)) (by decide) ?_
      refine x_iinc (x := 5) (v := 6) (ls' := [(4, .int 6), (0, .ref 107), (1, .int a1), (2, .int a2), (3, .int a3)]) rfl rfl (by decide) rfl rfl ?_
      refine x_goto (tgt := 32) rfl rfl ?_
      refine x_iload (x := 6) rfl rfl ?_
      refine x_bipush (v := 40) rfl kb_40 ?_
      refine x_icge (tgt := 53) rfl rfl (br_f (by decide) ?_)
      refine x_aloadn (x := 107) rfl rfl ?_
      refine x_getR (b := 117) 4 13 rfl f_4_44 rfl (congrArg Prod.fst (sh_si (sh_si (sh_si (sh_si (sh_si (sh_si (sh_si (sh_si (sh_si (sh_si (sh_si (F.1 107 (4, 18) rfl rfl))))))))))))) (rv_si (rv_si (rv_si (rv_si (rv_si (rv_si (rv_si (rv_si (rv_si (rv_si (rv_si (F.2.1 13709 117 rfl rfl)))))))))))) ?_
      refine x_iload (x := 6) rfl rfl ?_
      refine x_iconst (v := (-1)) rfl ki_m1 ?_
      refine y_iast (N := 40) 6 rfl (sh_si (sh_si (sh_si (sh_si (sh_si (sh_si (sh_si (sh_si (sh_si (sh_si (sh_si (F.1 117 (100, 40) rfl rfl)))))))))))) rfl (jinb_of (by decide)) (by decide) ?_
      refine x_iinc (x := 6) (v := 7) (ls' := [(4, .int 7), (0, .ref 107), (1, .int a1), (2, .int a2), (3, .int a3)]) rfl rfl (by decide) rfl rfl ?_
      refine x_goto (tgt := 32) rfl rfl ?_
      refine x_iload (x := 7) rfl rfl ?_
      refine x_bipush (v := 40) rfl kb_40 ?_
      refine x_icge (tgt := 53) rfl rfl (br_f (by decide) ?_)
      refine x_aloadn (x := 107) rfl rfl ?_
      refine x_getR (b := 117) 4 13 rfl f_4_44 rfl (congrArg Prod.fst (sh_si (sh_si (sh_si (sh_si (sh_si (sh_si (sh_si (sh_si (sh_si (sh_si (sh_si (sh_si (F.1 107 (4, 18) rfl rfl)))))))))))))) (rv_si (rv_si (rv_si (rv_si (rv_si (rv_si (rv_si (rv_si (rv_si (rv_si (rv_si (rv_si (F.2.1 13709 117 rfl rfl))))))))))))) ?_
      refine x_iload (x := 7) rfl rfl ?_
      refine x_iconst (v := (-1)) rfl ki_m1 ?_
      refine y_iast (N := 40) 7 rfl (sh_si (sh_si (sh_si (sh_si (sh_si (sh_si (sh_si (sh_si (sh_si (sh_si (sh_si (sh_si (F.1 117 (100, 40) rfl rfl))))))))))))) rfl (jinb_of (by decide)) (by decide) ?_
      refine x_iinc (x := 7) (v := 8) (ls' := [(4, .int 8), (0, .ref 107), (1, .int a1), (2, .int a2), (3, .int a3)]) rfl rfl (by decide) rfl rfl ?_
      refine x_goto (tgt := 32) rfl rfl ?_
      refine x_iload (x := 8) rfl rfl ?_
      refine x_bipush (v := 40) rfl kb_40 ?_
      refine x_icge (tgt := 53) rfl rfl (br_f (by decide) ?_)
      refine x_aloadn (x := 107) rfl rfl ?_
      refine x_getR (b := 117) 4 13 rfl f_4_44 rfl (congrArg Prod.fst (sh_si (sh_si (sh_si (sh_si (sh_si (sh_si (sh_si (sh_si (sh_si (sh_si (sh_si (sh_si (sh_si (F.1 107 (4, 18) rfl rfl))))))))))))))) (rv_si (rv_si (rv_si (rv_si (rv_si (rv_si (rv_si (rv_si (rv_si (rv_si (rv_si (rv_si (rv_si (F.2.1 13709 117 rfl rfl)))))))))))))) ?_
      refine x_iload (x := 8) rfl rfl ?_
      refine x_iconst (v := (-1)) rfl ki_m1 ?_
      refine y_iast (N := 40) 8 rfl (sh_si (sh_si (sh_si (sh_si (sh_si (sh_si (sh_si (sh_si (sh_si (sh_si (sh_si (sh_si (sh_si (F.1 117 (100, 40) rfl rfl)))))))))))))) rfl (jinb_of (by decide)) (by decide) ?_
      refine x_iinc (x := 8) (v := 9) (ls' := [(4, .int 9), (0, .ref 107), (1, .int a1), (2, .int a2), (3, .int a3)]) rfl rfl (by decide) rfl rfl ?_
      refine x_goto (tgt := 32) rfl rfl ?_
      refine x_iload (x := 9) rfl rfl ?_
      refine x_bipush (v := 40) rfl kb_40 ?_
      refine x_icge (tgt := 53) rfl rfl (br_f (by decide) ?_)
      refine x_aloadn (x := 107) rfl rfl ?_
      refine x_getR (b := 117) 4 13 rfl f_4_44 rfl (congrArg Prod.fst (sh_si (sh_si (sh_si (sh_si (sh_si (sh_si (sh_si (sh_si (sh_si (sh_si (sh_si (sh_si (sh_si (sh_si (F.1 107 (4, 18) rfl rfl)))))))))))))))) (rv_si (rv_si (rv_si (rv_si (rv_si (rv_si (rv_si (rv_si (rv_si (rv_si (rv_si (rv_si (rv_si (rv_si (F.2.1 13709 117 rfl rfl))))))))))))))) ?_
      refine x_iload (x := 9) rfl rfl ?_
      refine x_iconst (v := (-1)) rfl ki_m1 ?_
      refine y_iast (N := 40) 9 rfl (sh_si (sh_si (sh_si (sh_si (sh_si (sh_si (sh_si (sh_si (sh_si (sh_si (sh_si (sh_si (sh_si (sh_si (F.1 117 (100, 40) rfl rfl))))))))))))))) rfl (jinb_of (by decide)) (by decide) ?_
      refine x_iinc (x := 9) (v := 10) (ls' := [(4, .int 10), (0, .ref 107), (1, .int a1), (2, .int a2), (3, .int a3)]) rfl rfl (by decide) rfl rfl ?_
      refine x_goto (tgt := 32) rfl rfl ?_
      refine x_iload (x := 10) rfl rfl ?_
      refine x_bipush (v := 40) rfl kb_40 ?_
      refine x_icge (tgt := 53) rfl rfl (br_f (by decide) ?_)
      refine x_aloadn (x := 107) rfl rfl ?_
      refine x_getR (b := 117) 4 13 rfl f_4_44 rfl (congrArg Prod.fst (sh_si (sh_si (sh_si (sh_si (sh_si (sh_si (sh_si (sh_si (sh_si (sh_si (sh_si (sh_si (sh_si (sh_si (sh_si (F.1 107 (4, 18) rfl rfl))))))))))))))))) (rv_si (rv_si (rv_si (rv_si (rv_si (rv_si (rv_si (rv_si (rv_si (rv_si (rv_si (rv_si (rv_si (rv_si (rv_si (F.2.1 13709 117 rfl rfl)))))))))))))))) ?_
      refine x_iload (x := 10) rfl rfl ?_
      refine x_iconst (v := (-1)) rfl ki_m1 ?_
      refine y_iast (N := 40) 10 rfl (sh_si (sh_si (sh_si (sh_si (sh_si (sh_si (sh_si (sh_si (sh_si (sh_si (sh_si (sh_si (sh_si (sh_si (sh_si (F.1 117 (100, 40) rfl rfl)))))))))))))))) rfl (jinb_of (by decide)) (by decide) ?_
      refine x_iinc (x := 10) (v := 11) (ls' := [(4, .int 11), (0, .ref 107), (1, .int a1), (2, .int a2), (3, .int a3)]) rfl rfl (by decide) rfl rfl ?_
      refine x_goto (tgt := 32) rfl rfl ?_
      refine x_iload (x := 11) rfl rfl ?_
      refine x_bipush (v := 40) rfl kb_40 ?_
      refine x_icge (tgt := 53) rfl rfl (br_f (by decide) ?_)
      refine x_aloadn (x := 107) rfl rfl ?_
      refine x_getR (b := 117) 4 13 rfl f_4_44 rfl (congrArg Prod.fst (sh_si (sh_si (sh_si (sh_si (sh_si (sh_si (sh_si (sh_si (sh_si (sh_si (sh_si (sh_si (sh_si (sh_si (sh_si (sh_si (F.1 107 (4, 18) rfl rfl)))))))))))))))))) (rv_si (rv_si (rv_si (rv_si (rv_si (rv_si (rv_si (rv_si (rv_si (rv_si (rv_si (rv_si (rv_si (rv_si (rv_si (rv_si (F.2.1 13709 117 rfl rfl))))))))))))))))) ?_
      refine x_iload (x := 11) rfl rfl ?_
      refine x_iconst (v := (-1)) rfl ki_m1 ?_
      refine y_iast (N := 40) 11 rfl (sh_si (sh_si (sh_si (sh_si (sh_si (sh_si (sh_si (sh_si (sh_si (sh_si (sh_si (sh_si (sh_si (sh_si (sh_si (sh_si (F.1 117 (100, 40) rfl rfl))))))))))))))))) rfl (jinb_of (by decide)) (by decide) ?_
      refine x_iinc (x := 11) (v := 12) (ls' := [(4, .int 12), (0, .ref 107), (1, .int a1), (2, .int a2), (3, .int a3)]) rfl rfl (by decide) rfl rfl ?_
      refine x_goto (tgt := 32) rfl rfl ?_
      refine x_iload (x := 12) rfl rfl ?_
      refine x_bipush (v := 40) rfl kb_40 ?_
      refine x_icge (tgt := 53) rfl rfl (br_f (by decide) ?_)
      refine x_aloadn (x := 107) rfl rfl ?_
      refine x_getR (b := 117) 4 13 rfl f_4_44 rfl (congrArg Prod.fst (sh_si (sh_si (sh_si (sh_si (sh_si (sh_si (sh_si (sh_si (sh_si (sh_si (sh_si (sh_si (sh_si (sh_si (sh_si (sh_si (sh_si (F.1 107 (4, 18) rfl rfl))))))))))))))))))) (rv_si (rv_si (rv_si (rv_si (rv_si (rv_si (rv_si (rv_si (rv_si (rv_si (rv_si (rv_si (rv_si (rv_si (rv_si (rv_si (rv_si (F.2.1 13709 117 rfl rfl)))))))))))))))))) ?_
      refine x_iload (x := 12) rfl rfl ?_
      refine x_iconst (v := (-1)) rfl ki_m1 ?_
      refine y_iast (N := 40) 12 rfl (sh_si (sh_si (sh_si (sh_si (sh_si (sh_si (sh_si (sh_si (sh_si (sh_si (sh_si (sh_si (sh_si (sh_si (sh_si (sh_si (sh_si (F.1 117 (100, 40) rfl rfl)))))))))))))))))) rfl (jinb_of (by decide)) (by decide) ?_
      refine x_iinc (x := 12) (v := 13) (ls' := [(4, .int 13), (0, .ref 107), (1, .int a1), (2, .int a2), (3, .int a3)]) rfl rfl (by decide) rfl rfl ?_
      refine x_goto (tgt := 32) rfl rfl ?_
      refine x_iload (x := 13) rfl rfl ?_
      refine x_bipush (v := 40) rfl kb_40 ?_
      refine x_icge (tgt := 53) rfl rfl (br_f (by decide) ?_)
      refine x_aloadn (x := 107) rfl rfl ?_
      refine x_getR (b := 117) 4 13 rfl f_4_44 rfl (congrArg Prod.fst (sh_si (sh_si (sh_si (sh_si (sh_si (sh_si (sh_si (sh_si (sh_si (sh_si (sh_si (sh_si (sh_si (sh_si (sh_si (sh_si (sh_si (sh_si (F.1 107 (4, 18) rfl rfl)))))))))))))))))))) (rv_si (rv_si (rv_si (rv_si (rv_si (rv_si (rv_si (rv_si (rv_si (rv_si (rv_si (rv_si (rv_si (rv_si (rv_si (rv_si (rv_si (rv_si (F.2.1 13709 117 rfl rfl))))))))))))))))))) ?_
      refine x_iload (x := 13) rfl rfl ?_
      refine x_iconst (v := (-1)) rfl ki_m1 ?_
      refine y_iast (N := 40) 13 rfl (sh_si (sh_si (sh_si (sh_si (sh_si (sh_si (sh_si (sh_si (sh_si (sh_si (sh_si (sh_si (sh_si (sh_si (sh_si (sh_si (sh_si (sh_si (F.1 117 (100, 40) rfl rfl))))))))))))))))))) rfl (jinb_of (by decide)) (by decide) ?_
      refine x_iinc (x := 13) (v := 14) (ls' := [(4, .int 14), (0, .ref 107), (1, .int a1), (2, .int a2), (3, .int a3)]) rfl rfl (by decide) rfl rfl ?_
      refine x_goto (tgt := 32) rfl rfl ?_
      refine x_iload (x := 14) rfl rfl ?_
      refine x_bipush (v := 40) rfl kb_40 ?_
      refine x_icge (tgt := 53) rfl rfl (br_f (by decide) ?_)
      refine x_aloadn (x := 107) rfl rfl ?_
      refine x_getR (b := 117) 4 13 rfl f_4_44 rfl (congrArg Prod.fst (sh_si (sh_si (sh_si (sh_si (sh_si (sh_si (sh_si (sh_si (sh_si (sh_si (sh_si (sh_si (sh_si (sh_si (sh_si (sh_si (sh_si (sh_si (sh_si (F.1 107 (4, 18) rfl rfl))))))))))))))))))))) (rv_si (rv_si (rv_si (rv_si (rv_si (rv_si (rv_si (rv_si (rv_si (rv_si (rv_si (rv_si (rv_si (rv_si (rv_si (rv_si (rv_si (rv_si (rv_si (F.2.1 13709 117 rfl rfl)))))))))))))))))))) ?_
      refine x_iload (x := 14) rfl rfl ?_
      refine x_iconst (v := (-1)) rfl ki_m1 ?_
      refine y_iast (N := 40) 14 rfl (sh_si (sh_si (sh_si (sh_si (sh_si (sh_si (sh_si (sh_si (sh_si (sh_si (sh_si (sh_si (sh_si (sh_si (sh_si (sh_si (sh_si (sh_si (sh_si (F.1 117 (100, 40) rfl rfl)))))))))))))))))))) rfl (jinb_of (by decide)) (by decide) ?_
      refine x_iinc (x := 14) (v := 15) (ls' := [(4, .int 15), (0, .ref 107), (1, .int a1), (2, .int a2), (3, .int a3)]) rfl rfl (by decide) rfl rfl ?_
      refine x_goto (tgt := 32) rfl rfl ?_
      refine x_iload (x := 15) rfl rfl ?_
      refine x_bipush (v := 40) rfl kb_40 ?_
      refine x_icge (tgt := 53) rfl rfl (br_f (by decide) ?_)
      refine x_aloadn (x := 107) rfl rfl ?_
      refine x_getR (b := 117) 4 13 rfl f_4_44 rfl (congrArg Prod.fst (sh_si (sh_si (sh_si (sh_si (sh_si (sh_si (sh_si (sh_si (sh_si (sh_si (sh_si (sh_si (sh_si (sh_si (sh_si (sh_si (sh_si (sh_si (sh_si (sh_si (F.1 107 (4, 18) rfl rfl)))))))))))))))))))))) (rv_si (rv_si (rv_si (rv_si (rv_si (rv_si (rv_si (rv_si (rv_si (rv_si (rv_si (rv_si (rv_si (rv_si (rv_si (rv_si (rv_si (rv_si (rv_si (rv_si (F.2.1 13709 117 rfl rfl))))))))))))))))))))) ?_
      refine x_iload (x := 15) rfl rfl ?_
      refine x_iconst (v := (-1)) rfl ki_m1 ?_
      refine y_iast (N := 40) 15 rfl (sh_si (sh_si (sh_si (sh_si (sh_si (sh_si (sh_si (sh_si (sh_si (sh_si (sh_si (sh_si (sh_si (sh_si (sh_si (sh_si (sh_si (sh_si (sh_si (sh_si (F.1 117 (100, 40) rfl rfl))))))))))))))))))))) rfl (jinb_of (by decide)) (by decide) ?_
      refine x_iinc (x := 15) (v := 16) (ls' := [(4, .int 16), (0, .ref 107), (1, .int a1), (2, .int a2), (3, .int a3)]) rfl rfl (by decide) rfl rfl ?_
      refine x_goto (tgt := 32) rfl rfl ?_
      refine x_iload (x := 16) rfl rfl ?_
      refine x_bipush (v := 40) rfl kb_40 ?_
      refine x_icge (tgt := 53) rfl rfl (br_f (by decide) ?_)
      refine x_aloadn (x := 107) rfl rfl ?_
      refine x_getR (b := 117) 4 13 rfl f_4_44 rfl (congrArg Prod.fst (sh_si (sh_si (sh_si (sh_si (sh_si (sh_si (sh_si (sh_si (sh_si (sh_si (sh_si (sh_si (sh_si (sh_si (sh_si (sh_si (sh_si (sh_si (sh_si (sh_si (sh_si (F.1 107 (4, 18) rfl rfl))))))))))))))))))))))) (rv_si (rv_si (rv_si (rv_si (rv_si (rv_si (rv_si (rv_si (rv_si (rv_si (rv_si (rv_si (rv_si (rv_si (rv_si (rv_si (rv_si (rv_si (rv_si (rv_si (rv_si (F.2.1 13709 117 rfl rfl)))))))))))))))))))))) ?_
      refine x_iload (x := 16) rfl rfl ?_
      refine x_iconst (v := (-1)) rfl ki_m1 ?_
      refine y_iast (N := 40) 16 rfl (sh_si (sh_si (sh_si (sh_si (sh_si (sh_si (sh_si (sh_si (sh_si (sh_si (sh_si (sh_si (sh_si (sh_si (sh_si (sh_si (sh_si (sh_si (sh_si (sh_si (sh_si (F.1 117 (100, 40) rfl rfl)))))))))))))))))))))) rfl (jinb_of (by decide)) (by decide) ?_
      refine x_iinc (x := 16) (v := 17) (ls' := [(4, .int 17), (0, .ref 107), (1, .int a1), (2, .int a2), (3, .int a3)]) rfl rfl (by decide) rfl rfl ?_
      refine x_goto (tgt := 32) rfl rfl ?_
      refine x_iload (x := 17) rfl rfl ?_
      refine x_bipush (v := 40) rfl kb_40 ?_
      refine x_icge (tgt := 53) rfl rfl (br_f (by decide) ?_)
      refine x_aloadn (x := 107) rfl rfl ?_
      refine x_getR (b := 117) 4 13 rfl f_4_44 rfl (congrArg Prod.fst (sh_si (sh_si (sh_si (sh_si (sh_si (sh_si (sh_si (sh_si (sh_si (sh_si (sh_si (sh_si (sh_si (sh_si (sh_si (sh_si (sh_si (sh_si (sh_si (sh_si (sh_si (sh_si (F.1 107 (4, 18) rfl rfl)))))))))))))))))))))))) (rv_si (rv_si (rv_si (rv_si (rv_si (rv_si (rv_si (rv_si (rv_si (rv_si (rv_si (rv_si (rv_si (rv_si (rv_si (rv_si (rv_si (rv_si (rv_si (rv_si (rv_si (rv_si (F.2.1 13709 117 rfl rfl))))))))))))))))))))))) ?_
      refine x_iload (x := 17) rfl rfl ?_
      refine x_iconst (v := (-1)) rfl ki_m1 ?_
      refine y_iast (N := 40) 17 rfl (sh_si (sh_si (sh_si (sh_si (sh_si (sh_si (sh_si (sh_si (sh_si (sh_si (sh_si (sh_si (sh_si (sh_si (sh_si (sh_si (sh_si (sh_si (sh_si (sh_si (sh_si (sh_si (F.1 117 (100, 40) rfl rfl))))))))))))))))))))))) rfl (jinb_of (by decide)) (by decide) ?_
      refine x_iinc (x := 17) (v := 18) (ls' := [(4, .int 18), (0, .ref 107), (1, .int a1), (2, .int a2), (3, .int a3)]) rfl rfl (by decide) rfl rfl ?_
      refine x_goto (tgt := 32) rfl rfl ?_
      refine x_iload (x := 18) rfl rfl ?_
      refine x_bipush (v := 40) rfl kb_40 ?_
      refine x_icge (tgt := 53) rfl rfl (br_f (by decide) ?_)
      refine x_aloadn (x := 107) rfl rfl ?_
      refine x_getR (b := 117) 4 13 rfl f_4_44 rfl (congrArg Prod.fst (sh_si (sh_si (sh_si (sh_si (sh_si (sh_si (sh_si (sh_si (sh_si (sh_si (sh_si (sh_si (sh_si (sh_si (sh_si (sh_si (sh_si (sh_si (sh_si (sh_si (sh_si (sh_si (sh_si (F.1 107 (4, 18) rfl rfl))))))))))))))))))))))))) (rv_si (rv_si (rv_si (rv_si (rv_si (rv_si (rv_si (rv_si (rv_si (rv_si (rv_si (rv_si (rv_si (rv_si (rv_si (rv_si (rv_si (rv_si (rv_si (rv_si (rv_si (rv_si (rv_si (F.2.1 13709 117 rfl rfl)))))))))))))))))))))))) ?_
      refine x_iload (x := 18) rfl rfl ?_
      refine x_iconst (v := (-1)) rfl ki_m1 ?_
      refine y_iast (N := 40) 18 rfl (sh_si (sh_si (sh_si (sh_si (sh_si (sh_si (sh_si (sh_si (sh_si (sh_si (sh_si (sh_si (sh_si (sh_si (sh_si (sh_si (sh_si (sh_si (sh_si (sh_si (sh_si (sh_si (sh_si (F.1 117 (100, 40) rfl rfl)))))))))))))))))))))))) rfl (jinb_of (by decide)) (by decide) ?_
      refine x_iinc (x := 18) (v := 19) (ls' := [(4, .int 19), (0, .ref 107), (1, .int a1), (2, .int a2), (3, .int a3)]) rfl rfl (by decide) rfl rfl ?_
      refine x_goto (tgt := 32) rfl rfl ?_
      refine x_iload (x := 19) rfl rfl ?_
      refine x_bipush (v := 40) rfl kb_40 ?_
      refine x_icge (tgt := 53) rfl rfl (br_f (by decide) ?_)
      refine x_aloadn (x := 107) rfl rfl ?_
      refine x_getR (b := 117) 4 13 rfl f_4_44 rfl (congrArg Prod.fst (sh_si (sh_si (sh_si (sh_si (sh_si (sh_si (sh_si (sh_si (sh_si (sh_si (sh_si (sh_si (sh_si (sh_si (sh_si (sh_si (sh_si (sh_si (sh_si (sh_si (sh_si (sh_si (sh_si (sh_si (F.1 107 (4, 18) rfl rfl)))))))))))))))))))))))))) (rv_si (rv_si (rv_si (rv_si (rv_si (rv_si (rv_si (rv_si (rv_si (rv_si (rv_si (rv_si (rv_si (rv_si (rv_si (rv_si (rv_si (rv_si (rv_si (rv_si (rv_si (rv_si (rv_si (rv_si (F.2.1 13709 117 rfl rfl))))))))))))))))))))))))) ?_
      refine x_iload (x := 19) rfl rfl ?_
      refine x_iconst (v := (-1)) rfl ki_m1 ?_
      refine y_iast (N := 40) 19 rfl (sh_si (sh_si (sh_si (sh_si (sh_si (sh_si (sh_si (sh_si (sh_si (sh_si (sh_si (sh_si (sh_si (sh_si (sh_si (sh_si (sh_si (sh_si (sh_si (sh_si (sh_si (sh_si (sh_si (sh_si (F.1 117 (100, 40) rfl rfl))))))))))))))))))))))))) rfl (jinb_of (by decide)) (by decide) ?_
      refine x_iinc (x := 19) (v := 20) (ls' := [(4, .int 20), (0, .ref 107), (1, .int a1), (2, .int a2), (3, .int a3)]) rfl rfl (by decide) rfl rfl ?_
      refine x_goto (tgt := 32) rfl rfl ?_
      refine x_iload (x := 20) rfl rfl ?_
      refine x_bipush (v := 40) rfl kb_40 ?_
      refine x_icge (tgt := 53) rfl rfl (br_f (by decide) ?_)
      refine x_aloadn (x := 107) rfl rfl ?_
      refine x_getR (b := 117) 4 13 rfl f_4_44 rfl (congrArg Prod.fst (sh_si (sh_si (sh_si (sh_si (sh_si (sh_si (sh_si (sh_si (sh_si (sh_si (sh_si (sh_si (sh_si (sh_si (sh_si (sh_si (sh_si (sh_si (sh_si (sh_si (sh_si (sh_si (sh_si (sh_si (sh_si (F.1 107 (4, 18) rfl rfl))))))))))))))))))))))))))) (rv_si (rv_si (rv_si (rv_si (rv_si (rv_si (rv_si (rv_si (rv_si (rv_si (rv_si (rv_si (rv_si (rv_si (rv_si (rv_si (rv_si (rv_si (rv_si (rv_si (rv_si (rv_si (rv_si (rv_si (rv_si (F.2.1 13709 117 rfl rfl)))))))))))))))))))))))))) ?_
      refine x_iload (x := 20) rfl rfl ?_
      refine x_iconst (v := (-1)) rfl ki_m1 ?_
      refine y_iast (N := 40) 20 rfl (sh_si (sh_si (sh_si (sh_si (sh_si (sh_si (sh_si (sh_si (sh_si (sh_si (sh_si (sh_si (sh_si (sh_si (sh_si (sh_si (sh_si (sh_si (sh_si (sh_si (sh_si (sh_si (sh_si (sh_si (sh_si (F.1 117 (100, 40) rfl rfl)))))))))))))))))))))))))) rfl (jinb_of (by decide)) (by decide) ?_
      refine x_iinc (x := 20) (v := 21) (ls' := [(4, .int 21), (0, .ref 107), (1, .int a1), (2, .int a2), (3, .int a3)]) rfl rfl (by decide) rfl rfl ?_
      refine x_goto (tgt := 32) rfl rfl ?_
      refine x_iload (x := 21) rfl rfl ?_
      refine x_bipush (v := 40) rfl kb_40 ?_
      refine x_icge (tgt := 53) rfl rfl (br_f (by decide) ?_)
      refine x_aloadn (x := 107) rfl rfl ?_
      refine x_getR (b := 117) 4 13 rfl f_4_44 rfl (congrArg Prod.fst (sh_si (sh_si (sh_si (sh_si (sh_si (sh_si (sh_si (sh_si (sh_si (sh_si (sh_si (sh_si (sh_si (sh_si (sh_si (sh_si (sh_si (sh_si (sh_si (sh_si (sh_si (sh_si (sh_si (sh_si (sh_si (sh_si (F.1 107 (4, 18) rfl rfl)))))))))))))))))))))))))))) (rv_si (rv_si (rv_si (rv_si (rv_si (rv_si (rv_si (rv_si (rv_si (rv_si (rv_si (rv_si (rv_si (rv_si (rv_si (rv_si (rv_si (rv_si (rv_si (rv_si (rv_si (rv_si (rv_si (rv_si (rv_si (rv_si (F.2.1 13709 117 rfl rfl))))))))))))))))))))))))))) ?_
      refine x_iload (x := 21) rfl rfl ?_
      refine x_iconst (v := (-1)) rfl ki_m1 ?_
      refine y_iast (N := 40) 21 rfl (sh_si (sh_si (sh_si (sh_si (sh_si (sh_si (sh_si (sh_si (sh_si (sh_si (sh_si (sh_si (sh_si (sh_si (sh_si (sh_si (sh_si (sh_si (sh_si (sh_si (sh_si (sh_si (sh_si (sh_si (sh_si (sh_si (F.1 117 (100, 40) rfl rfl))))))))))))))))))))))))))) rfl (jinb_of (by decide)) (by decide) ?_
      refine x_iinc (x := 21) (v := 22) (ls' := [(4, .int 22), (0, .ref 107), (1, .int a1), (2, .int a2), (3, .int a3)]) rfl rfl (by decide) rfl rfl ?_
      refine x_goto (tgt := 32) rfl rfl ?_
      refine x_iload (x := 22) rfl rfl ?_
      refine x_bipush (v := 40) rfl kb_40 ?_
      refine x_icge (tgt := 53) rfl rfl (br_f (by decide) ?_)
      refine x_aloadn (x := 107) rfl rfl ?_
      refine x_getR (b := 117) 4 13 rfl f_4_44 rfl (congrArg Prod.fst (sh_si (sh_si (sh_si (sh_si (sh_si (sh_si (sh_si (sh_si (sh_si (sh_si (sh_si (sh_si (sh_si (sh_si (sh_si (sh_si (sh_si (sh_si (sh_si (sh_si (sh_si (sh_si (sh_si (sh_si (sh_si (sh_si (sh_si (F.1 107 (4, 18) rfl rfl))))))))))))))))))))))))))))) (rv_si (rv_si (rv_si (rv_si (rv_si (rv_si (rv_si (rv_si (rv_si (rv_si (rv_si (rv_si (rv_si (rv_si (rv_si (rv_si (rv_si (rv_si (rv_si (rv_si (rv_si (rv_si (rv_si (rv_si (rv_si (rv_si (rv_si (F.2.1 13709 117 rfl rfl)))))))))))))))))))))))))))) ?_
      refine x_iload (x := 22) rfl rfl ?_
      refine x_iconst (v := (-1)) rfl ki_m1 ?_
      refine y_iast (N := 40) 22 rfl (sh_si (sh_si (sh_si (sh_si (sh_si (sh_si (sh_si (sh_si (sh_si (sh_si (sh_si (sh_si (sh_si (sh_si (sh_si (sh_si (sh_si (sh_si (sh_si (sh_si (sh_si (sh_si (sh_si (sh_si (sh_si (sh_si (sh_si (F.1 117 (100, 40) rfl rfl)))))))))))))))))))))))))))) rfl (jinb_of (by decide)) (by decide) ?_
      refine x_iinc (x := 22) (v := 23) (ls' := [(4, .int 23), (0, .ref 107), (1, .int a1), (2, .int a2), (3, .int a3)]) rfl rfl (by decide) rfl rfl ?_
      refine x_goto (tgt := 32) rfl rfl ?_
      refine x_iload (x := 23) rfl rfl ?_
      refine x_bipush (v := 40) rfl kb_40 ?_
      refine x_icge (tgt := 53) rfl rfl (br_f (by decide) ?_)
      refine x_aloadn (x := 107) rfl rfl ?_
      refine x_getR (b := 117) 4 13 rfl f_4_44 rfl (congrArg Prod.fst (sh_si (sh_si (sh_si (sh_si (sh_si (sh_si (sh_si (sh_si (sh_si (sh_si (sh_si (sh_si (sh_si (sh_si (sh_si (sh_si (sh_si (sh_si (sh_si (sh_si (sh_si (sh_si (sh_si (sh_si (sh_si (sh_si (sh_si (sh_si (F.1 107 (4, 18) rfl rfl)))))))))))))))))))))))))))))) (rv_si (rv_si (rv_si (rv_si (rv_si (rv_si (rv_si (rv_si (rv_si (rv_si (rv_si (rv_si (rv_si (rv_si (rv_si (rv_si (rv_si (rv_si (rv_si (rv_si (rv_si (rv_si (rv_si (rv_si (rv_si (rv_si (rv_si (rv_si (F.2.1 13709 117 rfl rfl))))))))))))))))))))))))))))) ?_
      refine x_iload (x := 23) rfl rfl ?_
      refine x_iconst (v := (-1)) rfl ki_m1 ?_
      refine y_iast (N := 40) 23 rfl (sh_si (sh_si (sh_si (sh_si (sh_si (sh_si (sh_si (sh_si (sh_si (sh_si (sh_si (sh_si (sh_si (sh_si (sh_si (sh_si (sh_si (sh_si (sh_si (sh_si (sh_si (sh_si (sh_si (sh_si (sh_si (sh_si (sh_si (sh_si (F.1 117 (100, 40) rfl rfl))))))))))))))))))))))))))))) rfl (jinb_of (by decide)) (by decide) ?_
      refine x_iinc (x := 23) (v := 24) (ls' := [(4, .int 24), (0, .ref 107), (1, .int a1), (2, .int a2), (3, .int a3)]) rfl rfl (by decide) rfl rfl ?_
      refine x_goto (tgt := 32) rfl rfl ?_
      refine x_iload (x := 24) rfl rfl ?_
      refine x_bipush (v := 40) rfl kb_40 ?_
      refine x_icge (tgt := 53) rfl rfl (br_f (by decide) ?_)
      refine x_aloadn (x := 107) rfl rfl ?_
      refine x_getR (b := 117) 4 13 rfl f_4_44 rfl (congrArg Prod.fst (sh_si (sh_si (sh_si (sh_si (sh_si (sh_si (sh_si (sh_si (sh_si (sh_si (sh_si (sh_si (sh_si (sh_si (sh_si (sh_si (sh_si (sh_si (sh_si (sh_si (sh_si (sh_si (sh_si (sh_si (sh_si (sh_si (sh_si (sh_si (sh_si (F.1 107 (4, 18) rfl rfl))))))))))))))))))))))))))))))) (rv_si (rv_si (rv_si (rv_si (rv_si (rv_si (rv_si (rv_si (rv_si (rv_si (rv_si (rv_si (rv_si (rv_si (rv_si (rv_si (rv_si (rv_si (rv_si (rv_si (rv_si (rv_si (rv_si (rv_si (rv_si (rv_si (rv_si (rv_si (rv_si (F.2.1 13709 117 rfl rfl)))))))))))))))))))))))))))))) ?_
      refine x_iload (x := 24) rfl rfl ?_
      refine x_iconst (v := (-1)) rfl ki_m1 ?_
      refine y_iast (N := 40) 24 rfl (sh_si (sh_si (sh_si (sh_si (sh_si (sh_si (sh_si (sh_si (sh_si (sh_si (sh_si (sh_si (sh_si (sh_si (sh_si (sh_si (sh_si (sh_si (sh_si (sh_si (sh_si (sh_si (sh_si (sh_si (sh_si (sh_si (sh_si (sh_si (sh_si (F.1 117 (100, 40) rfl rfl)))))))))))))))))))))))))))))) rfl (jinb_of (by decide)) (by decide) ?_
      refine x_iinc (x := 24) (v := 25) (ls' := [(4, .int 25), (0, .ref 107), (1, .int a1), (2, .int a2), (3, .int a3)]) rfl rfl (by decide) rfl rfl ?_
      refine x_goto (tgt := 32) rfl rfl ?_
      refine x_iload (x := 25) rfl rfl ?_
      refine x_bipush (v := 40) rfl kb_40 ?_
      refine x_icge (tgt := 53) rfl rfl (br_f (by decide) ?_)
      refine x_aloadn (x := 107) rfl rfl ?_
      refine x_getR (b := 117) 4 13 rfl f_4_44 rfl (congrArg Prod.fst (sh_si (sh_si (sh_si (sh_si (sh_si (sh_si (sh_si (sh_si (sh_si (sh_si (sh_si (sh_si (sh_si (sh_si (sh_si (sh_si (sh_si (sh_si (sh_si (sh_si (sh_si (sh_si (sh_si (sh_si (sh_si (sh_si (sh_si (sh_si (sh_si (sh_si (F.1 107 (4, 18) rfl rfl)))))))))))))))))))))))))))))))) (rv_si (rv_si (rv_si (rv_si (rv_si (rv_si (rv_si (rv_si (rv_si (rv_si (rv_si (rv_si (rv_si (rv_si (rv_si (rv_si (rv_si (rv_si (rv_si (rv_si (rv_si (rv_si (rv_si (rv_si (rv_si (rv_si (rv_si (rv_si (rv_si (rv_si (F.2.1 13709 117 rfl rfl))))))))))))))))))))))))))))))) ?_
      refine x_iload (x := 25) rfl rfl ?_
      refine x_iconst (v := (-1)) rfl ki_m1 ?_
      refine y_iast (N := 40) 25 rfl (sh_si (sh_si (sh_si (sh_si (sh_si (sh_si (sh_si (sh_si (sh_si (sh_si (sh_si (sh_si (sh_si (sh_si (sh_si (sh_si (sh_si (sh_si (sh_si (sh_si (sh_si (sh_si (sh_si (sh_si (sh_si (sh_si (sh_si (sh_si (sh_si (sh_si (F.1 117 (100, 40) rfl rfl))))))))))))))))))))))))))))))) rfl (jinb_of (by decide)) (by decide) ?_
      refine x_iinc (x := 25) (v := 26) (ls' := [(4, .int 26), (0, .ref 107), (1, .int a1), (2, .int a2), (3, .int a3)]) rfl rfl (by decide) rfl rfl ?_
      refine x_goto (tgt := 32) rfl rfl ?_
      refine x_iload (x := 26) rfl rfl ?_
      refine x_bipush (v := 40) rfl kb_40 ?_
      refine x_icge (tgt := 53) rfl rfl (br_f (by decide) ?_)
      refine x_aloadn (x := 107) rfl rfl ?_
      refine x_getR (b := 117) 4 13 rfl f_4_44 rfl (congrArg Prod.fst (sh_si (sh_si (sh_si (sh_si (sh_si (sh_si (sh_si (sh_si (sh_si (sh_si (sh_si (sh_si (sh_si (sh_si (sh_si (sh_si (sh_si (sh_si (sh_si (sh_si (sh_si (sh_si (sh_si (sh_si (sh_si (sh_si (sh_si (sh_si (sh_si (sh_si (sh_si (F.1 107 (4, 18) rfl rfl))))))))))))))))))))))))))))))))) (rv_si (rv_si (rv_si (rv_si (rv_si (rv_si (rv_si (rv_si (rv_si (rv_si (rv_si (rv_si (rv_si (rv_si (rv_si (rv_si (rv_si (rv_si (rv_si (rv_si (rv_si (rv_si (rv_si (rv_si (rv_si (rv_si (rv_si (rv_si (rv_si (rv_si (rv_si (F.2.1 13709 117 rfl rfl)))))))))))))))))))))))))))))))) ?_
      refine x_iload (x := 26) rfl rfl ?_
      refine x_iconst (v := (-1)) rfl ki_m1 ?_
      refine y_iast (N := 40) 26 rfl (sh_si (sh_si (sh_si (sh_si (sh_si (sh_si (sh_si (sh_si (sh_si (sh_si (sh_si (sh_si (sh_si (sh_si (sh_si (sh_si (sh_si (sh_si (sh_si (sh_si (sh_si (sh_si (sh_si (sh_si (sh_si (sh_si (sh_si (sh_si (sh_si (sh_si (sh_si (F.1 117 (100, 40) rfl rfl)))))))))))))))))))))))))))))))) rfl (jinb_of (by decide)) (by decide) ?_
      refine x_iinc (x := 26) (v := 27) (ls' := [(4, .int 27), (0, .ref 107), (1, .int a1), (2, .int a2), (3, .int a3)]) rfl rfl (by decide) rfl rfl ?_
      refine x_goto (tgt := 32) rfl rfl ?_
      refine x_iload (x := 27) rfl rfl ?_
      refine x_bipush (v := 40) rfl kb_40 ?_
      refine x_icge (tgt := 53) rfl rfl (br_f (by decide) ?_)
      refine x_aloadn (x := 107) rfl rfl ?_
      refine x_getR (b := 117) 4 13 rfl f_4_44 rfl (congrArg Prod.fst (sh_si (sh_si (sh_si (sh_si (sh_si (sh_si (sh_si (sh_si (sh_si (sh_si (sh_si (sh_si (sh_si (sh_si (sh_si (sh_si (sh_si (sh_si (sh_si (sh_si (sh_si (sh_si (sh_si (sh_si (sh_si (sh_si (sh_si (sh_si (sh_si (sh_si (sh_si (sh_si (F.1 107 (4, 18) rfl rfl)))))))))))))))))))))))))))))))))) (rv_si (rv_si (rv_si (rv_si (rv_si (rv_si (rv_si (rv_si (rv_si (rv_si (rv_si (rv_si (rv_si (rv_si (rv_si (rv_si (rv_si (rv_si (rv_si (rv_si (rv_si (rv_si (rv_si (rv_si (rv_si (rv_si (rv_si (rv_si (rv_si (rv_si (rv_si (rv_si (F.2.1 13709 117 rfl rfl))))))))))))))))))))))))))))))))) ?_
      refine x_iload (x := 27) rfl rfl ?_
      refine x_iconst (v := (-1)) rfl ki_m1 ?_
      refine y_iast (N := 40) 27 rfl (sh_si (sh_si (sh_si (sh_si (sh_si (sh_si (sh_si (sh_si (sh_si (sh_si (sh_si (sh_si (sh_si (sh_si (sh_si (sh_si (sh_si (sh_si (sh_si (sh_si (sh_si (sh_si (sh_si (sh_si (sh_si (sh_si (sh_si (sh_si (sh_si (sh_si (sh_si (sh_si (F.1 117 (100, 40) rfl rfl))))))))))))))))))))))))))))))))) rfl (jinb_of (by decide)) (by decide) ?_
      refine x_iinc (x := 27) (v := 28) (ls' := [(4, .int 28), (0, .ref 107), (1, .int a1), (2, .int a2), (3, .int a3)]) rfl rfl (by decide) rfl rfl ?_
      refine x_goto (tgt := 32) rfl rfl ?_
      refine x_iload (x := 28) rfl rfl ?_
      refine x_bipush (v := 40) rfl kb_40 ?_
      refine x_icge (tgt := 53) rfl rfl (br_f (by decide) ?_)
      refine x_aloadn (x := 107) rfl rfl ?_
      refine x_getR (b := 117) 4 13 rfl f_4_44 rfl (congrArg Prod.fst (sh_si (sh_si (sh_si (sh_si (sh_si (sh_si (sh_si (sh_si (sh_si (sh_si (sh_si (sh_si (sh_si (sh_si (sh_si (sh_si (sh_si (sh_si (sh_si (sh_si (sh_si (sh_si (sh_si (sh_si (sh_si (sh_si (sh_si (sh_si (sh_si (sh_si (sh_si (sh_si (sh_si (F.1 107 (4, 18) rfl rfl))))))))))))))))))))))))))))))))))) (rv_si (rv_si (rv_si (rv_si (rv_si (rv_si (rv_si (rv_si (rv_si (rv_si (rv_si (rv_si (rv_si (rv_si (rv_si (rv_si (rv_si (rv_si (rv_si (rv_si (rv_si (rv_si (rv_si (rv_si (rv_si (rv_si (rv_si (rv_si (rv_si (rv_si (rv_si (rv_si (rv_si (F.2.1 13709 117 rfl rfl)))))))))))))))))))))))))))))))))) ?_
      refine x_iload (x := 28) rfl rfl ?_
      refine x_iconst (v := (-1)) rfl ki_m1 ?_
      refine y_iast (N := 40) 28 rfl (sh_si (sh_si (sh_si (sh_si (sh_si (sh_si (sh_si (sh_si (sh_si (sh_si (sh_si (sh_si (sh_si (sh_si (sh_si (sh_si (sh_si (sh_si (sh_si (sh_si (sh_si (sh_si (sh_si (sh_si (sh_si (sh_si (sh_si (sh_si (sh_si (sh_si (sh_si (sh_si (sh_si (F.1 117 (100, 40) rfl rfl)))))))))))))))))))))))))))))))))) rfl (jinb_of (by decide)) (by decide) ?_
      refine x_iinc (x := 28) (v := 29) (ls' := [(4, .int 29), (0, .ref 107), (1, .int a1), (2, .int a2), (3, .int a3)]) rfl rfl (by decide) rfl rfl ?_
      refine x_goto (tgt := 32) rfl rfl ?_
      refine x_iload (x := 29) rfl rfl ?_
      refine x_bipush (v := 40) rfl kb_40 ?_
      refine x_icge (tgt := 53) rfl rfl (br_f (by decide) ?_)
      refine x_aloadn (x := 107) rfl rfl ?_
      refine x_getR (b := 117) 4 13 rfl f_4_44 rfl (congrArg Prod.fst (sh_si (sh_si (sh_si (sh_si (sh_si (sh_si (sh_si (sh_si (sh_si (sh_si (sh_si (sh_si (sh_si (sh_si (sh_si (sh_si (sh_si (sh_si (sh_si (sh_si (sh_si (sh_si (sh_si (sh_si (sh_si (sh_si (sh_si (sh_si (sh_si (sh_si (sh_si (sh_si (sh_si (sh_si (F.1 107 (4, 18) rfl rfl)))))))))))))))))))))))))))))))))))) (rv_si (rv_si (rv_si (rv_si (rv_si (rv_si (rv_si (rv_si (rv_si (rv_si (rv_si (rv_si (rv_si (rv_si (rv_si (rv_si (rv_si (rv_si (rv_si (rv_si (rv_si (rv_si (rv_si (rv_si (rv_si (rv_si (rv_si (rv_si (rv_si (rv_si (rv_si (rv_si (rv_si (rv_si (F.2.1 13709 117 rfl rfl))))))))))))))))))))))))))))))))))) ?_
      refine x_iload (x := 29) rfl rfl ?_
      refine x_iconst (v := (-1)) rfl ki_m1 ?_
      refine y_iast (N := 40) 29 rfl (sh_si (sh_si (sh_si (sh_si (sh_si (sh_si (sh_si (sh_si (sh_si (sh_si (sh_si (sh_si (sh_si (sh_si (sh_si (sh_si (sh_si (sh_si (sh_si (sh_si (sh_si (sh_si (sh_si (sh_si (sh_si (sh_si (sh_si (sh_si (sh_si (sh_si (sh_si (sh_si (sh_si (sh_si (F.1 117 (100, 40) rfl rfl))))))))))))))))))))))))))))))))))) rfl (jinb_of (by decide)) (by decide) ?_
      refine x_iinc (x := 29) (v := 30) (ls' := [(4, .int 30), (0, .ref 107), (1, .int a1), (2, .int a2), (3, .int a3)]) rfl rfl (by decide) rfl rfl ?_
      refine x_goto (tgt := 32) rfl rfl ?_
      refine x_iload (x := 30) rfl rfl ?_
      refine x_bipush (v := 40) rfl kb_40 ?_
      refine x_icge (tgt := 53) rfl rfl (br_f (by decide) ?_)
      refine x_aloadn (x := 107) rfl rfl ?_
      refine x_getR (b := 117) 4 13 rfl f_4_44 rfl (congrArg Prod.fst (sh_si (sh_si (sh_si (sh_si (sh_si (sh_si (sh_si (sh_si (sh_si (sh_si (sh_si (sh_si (sh_si (sh_si (sh_si (sh_si (sh_si (sh_si (sh_si (sh_si (sh_si (sh_si (sh_si (sh_si (sh_si (sh_si (sh_si (sh_si (sh_si (sh_si (sh_si (sh_si (sh_si (sh_si (sh_si (F.1 107 (4, 18) rfl rfl))))))))))))))))))))))))))))))))))))) (rv_si (rv_si (rv_si (rv_si (rv_si (rv_si (rv_si (rv_si (rv_si (rv_si (rv_si (rv_si (rv_si (rv_si (rv_si (rv_si (rv_si (rv_si (rv_si (rv_si (rv_si (rv_si (rv_si (rv_si (rv_si (rv_si (rv_si (rv_si (rv_si (rv_si (rv_si (rv_si (rv_si (rv_si (rv_si (F.2.1 13709 117 rfl rfl)))))))))))))))))))))))))))))))))))) ?_
      refine x_iload (x := 30) rfl rfl ?_
      refine x_iconst (v := (-1)) rfl ki_m1 ?_
      refine y_iast (N := 40) 30 rfl (sh_si (sh_si (sh_si (sh_si (sh_si (sh_si (sh_si (sh_si (sh_si (sh_si (sh_si (sh_si (sh_si (sh_si (sh_si (sh_si (sh_si (sh_si (sh_si (sh_si (sh_si (sh_si (sh_si (sh_si (sh_si (sh_si (sh_si (sh_si (sh_si (sh_si (sh_si (sh_si (sh_si (sh_si (sh_si (F.1 117 (100, 40) rfl rfl)))))))))))))))))))))))))))))))))))) rfl (jinb_of (by decide)) (by decide) ?_
      refine x_iinc (x := 30) (v := 31) (ls' := [(4, .int 31), (0, .ref 107), (1, .int a1), (2, .int a2), (3, .int a3)]) rfl rfl (by decide) rfl rfl ?_
      refine x_goto (tgt := 32) rfl rfl ?_
      refine x_iload (x := 31) rfl rfl ?_
      refine x_bipush (v := 40) rfl kb_40 ?_
      refine x_icge (tgt := 53) rfl rfl (br_f (by decide) ?_)
      refine x_aloadn (x := 107) rfl rfl ?_
      refine x_getR (b := 117) 4 13 rfl f_4_44 rfl (congrArg Prod.fst (sh_si (sh_si (sh_si (sh_si (sh_si (sh_si (sh_si (sh_si (sh_si (sh_si (sh_si (sh_si (sh_si (sh_si (sh_si (sh_si (sh_si (sh_si (sh_si (sh_si (sh_si (sh_si (sh_si (sh_si (sh_si (sh_si (sh_si (sh_si (sh_si (sh_si (sh_si (sh_si (sh_si (sh_si (sh_si (sh_si (F.1 107 (4, 18) rfl rfl)))))))))))))))))))))))))))))))))))))) (rv_si (rv_si (rv_si (rv_si (rv_si (rv_si (rv_si (rv_si (rv_si (rv_si (rv_si (rv_si (rv_si (rv_si (rv_si (rv_si (rv_si (rv_si (rv_si (rv_si (rv_si (rv_si (rv_si (rv_si (rv_si (rv_si (rv_si (rv_si (rv_si (rv_si (rv_si (rv_si (rv_si (rv_si (rv_si (rv_si (F.2.1 13709 117 rfl rfl))))))))))))))))))))))))))))))))))))) ?_
      refine x_iload (x := 31) rfl rfl ?_
      refine x_iconst (v := (-1)) rfl ki_m1 ?_
      refine y_iast (N := 40) 31 rfl (sh_si (sh_si (sh_si (sh_si (sh_si (sh_si (sh_si (sh_si (sh_si (sh_si (sh_si (sh_si (sh_si (sh_si (sh_si (sh_si (sh_si (sh_si (sh_si (sh_si (sh_si (sh_si (sh_si (sh_si (sh_si (sh_si (sh_si (sh_si (sh_si (sh_si (sh_si (sh_si (sh_si (sh_si (sh_si (sh_si (F.1 117 (100, 40) rfl rfl))))))))))))))))))))))))))))))))))))) rfl (jinb_of (by decide)) (by decide) ?_
      refine x_iinc (x := 31) (v := 32) (ls' := [(4, .int 32), (0, .ref 107), (1, .int a1), (2, .int a2), (3, .int a3)]) rfl rfl (by decide) rfl rfl ?_
      refine x_goto (tgt := 32) rfl rfl ?_
      refine x_iload (x := 32) rfl rfl ?_
      refine x_bipush (v := 40) rfl kb_40 ?_
      refine x_icge (tgt := 53) rfl rfl (br_f (by decide) ?_)
      refine x_aloadn (x := 107) rfl rfl ?_
      refine x_getR (b := 117) 4 13 rfl f_4_44 rfl (congrArg Prod.fst (sh_si (sh_si (sh_si (sh_si (sh_si (sh_si (sh_si (sh_si (sh_si (sh_si (sh_si (sh_si (sh_si (sh_si (sh_si (sh_si (sh_si (sh_si (sh_si (sh_si (sh_si (sh_si (sh_si (sh_si (sh_si (sh_si (sh_si (sh_si (sh_si (sh_si (sh_si (sh_si (sh_si (sh_si (sh_si (sh_si (sh_si (F.1 107 (4, 18) rfl rfl))))))))))))))))))))))))))))))))))))))) (rv_si (rv_si (rv_si (rv_si (rv_si (rv_si (rv_si (rv_si (rv_si (rv_si (rv_si (rv_si (rv_si (rv_si (rv_si (rv_si (rv_si (rv_si (rv_si (rv_si (rv_si (rv_si (rv_si (rv_si (rv_si (rv_si (rv_si (rv_si (rv_si (rv_si (rv_si (rv_si (rv_si (rv_si (rv_si (rv_si (rv_si (F.2.1 13709 117 rfl rfl)))))))))))))))))))))))))))))))))))))) ?_
      refine x_iload (x := 32) rfl rfl ?_
      refine x_iconst (v := (-1)) rfl ki_m1 ?_
      refine y_iast (N := 40) 32 rfl (sh_si (sh_si (sh_si (sh_si (sh_si (sh_si (sh_si (sh_si (sh_si (sh_si (sh_si (sh_si (sh_si (sh_si (sh_si (sh_si (sh_si (sh_si (sh_si (sh_si (sh_si (sh_si (sh_si (sh_si (sh_si (sh_si (sh_si (sh_si (sh_si (sh_si (sh_si (sh_si (sh_si (sh_si (sh_si (sh_si (sh_si (F.1 117 (100, 40) rfl rfl)))))))))))))))))))))))))))))))))))))) rfl (jinb_of (by decide)) (by decide) ?_
      refine x_iinc (x := 32) (v := 33) (ls' := [(4, .int 33), (0, .ref 107), (1, .int a1), (2, .int a2), (3, .int a3)]) rfl rfl (by decide) rfl rfl ?_
      refine x_goto (tgt := 32) rfl rfl ?_
      refine x_iload (x := 33) rfl rfl ?_
      refine x_bipush (v := 40) rfl kb_40 ?_
      refine x_icge (tgt := 53) rfl rfl (br_f (by decide) ?_)
      refine x_aloadn (x := 107) rfl rfl ?_
      refine x_getR (b := 117) 4 13 rfl f_4_44 rfl (congrArg Prod.fst (sh_si (sh_si (sh_si (sh_si (sh_si (sh_si (sh_si (sh_si (sh_si (sh_si (sh_si (sh_si (sh_si (sh_si (sh_si (sh_si (sh_si (sh_si (sh_si (sh_si (sh_si (sh_si (sh_si (sh_si (sh_si (sh_si (sh_si (sh_si (sh_si (sh_si (sh_si (sh_si (sh_si (sh_si (sh_si (sh_si (sh_si (sh_si (F.1 107 (4, 18) rfl rfl)))))))))))))))))))))))))))))))))))))))) (rv_si (rv_si (rv_si (rv_si (rv_si (rv_si (rv_si (rv_si (rv_si (rv_si (rv_si (rv_si (rv_si (rv_si (rv_si (rv_si (rv_si (rv_si (rv_si (rv_si (rv_si (rv_si (rv_si (rv_si (rv_si (rv_si (rv_si (rv_si (rv_si (rv_si (rv_si (rv_si (rv_si (rv_si (rv_si (rv_si (rv_si (rv_si (F.2.1 13709 117 rfl rfl))))))))))))))))))))))))))))))))))))))) ?_
      refine x_iload (x := 33) rfl rfl ?_
      refine x_iconst (v := (-1)) rfl ki_m1 ?_
      refine y_iast (N := 40) 33 rfl (sh_si (sh_si (sh_si (sh_si (sh_si (sh_si (sh_si (sh_si (sh_si (sh_si (sh_si (sh_si (sh_si (sh_si (sh_si (sh_si (sh_si (sh_si (sh_si (sh_si (sh_si (sh_si (sh_si (sh_si (sh_si (sh_si (sh_si (sh_si (sh_si (sh_si (sh_si (sh_si (sh_si (sh_si (sh_si (sh_si (sh_si (sh_si (F.1 117 (100, 40) rfl rfl))))))))))))))))))))))))))))))))))))))) rfl (jinb_of (by decide)) (by decide) ?_
      refine x_iinc (x := 33) (v := 34) (ls' := [(4, .int 34), (0, .ref 107), (1, .int a1), (2, .int a2), (3, .int a3)]) rfl rfl (by decide) rfl rfl ?_
      refine x_goto (tgt := 32) rfl rfl ?_
      refine x_iload (x := 34) rfl rfl ?_
      refine x_bipush (v := 40) rfl kb_40 ?_
      refine x_icge (tgt := 53) rfl rfl (br_f (by decide) ?_)
      refine x_aloadn (x := 107) rfl rfl ?_
      refine x_getR (b := 117) 4 13 rfl f_4_44 rfl (congrArg Prod.fst (sh_si (sh_si (sh_si (sh_si (sh_si (sh_si (sh_si (sh_si (sh_si (sh_si (sh_si (sh_si (sh_si (sh_si (sh_si (sh_si (sh_si (sh_si (sh_si (sh_si (sh_si (sh_si (sh_si (sh_si (sh_si (sh_si (sh_si (sh_si (sh_si (sh_si (sh_si (sh_si (sh_si (sh_si (sh_si (sh_si (sh_si (sh_si (sh_si (F.1 107 (4, 18) rfl rfl))))))))))))))))))))))))))))))))))))))))) (rv_si (rv_si (rv_si (rv_si (rv_si (rv_si (rv_si (rv_si (rv_si (rv_si (rv_si (rv_si (rv_si (rv_si (rv_si (rv_si (rv_si (rv_si (rv_si (rv_si (rv_si (rv_si (rv_si (rv_si (rv_si (rv_si (rv_si (rv_si (rv_si (rv_si (rv_si (rv_si (rv_si (rv_si (rv_si (rv_si (rv_si (rv_si (rv_si (F.2.1 13709 117 rfl rfl)))))))))))))))))))))))))))))))))))))))) ?_
      refine x_iload (x := 34) rfl rfl ?_
      refine x_iconst (v := (-1)) rfl ki_m1 ?_
      refine y_iast (N := 40) 34 rfl (sh_si (sh_si (sh_si (sh_si (sh_si (sh_si (sh_si (sh_si (sh_si (sh_si (sh_si (sh_si (sh_si (sh_si (sh_si (sh_si (sh_si (sh_si (sh_si (sh_si (sh_si (sh_si (sh_si (sh_si (sh_si (sh_si (sh_si (sh_si (sh_si (sh_si (sh_si (sh_si (sh_si (sh_si (sh_si (sh_si (sh_si (sh_si (sh_si (F.1 117 (100, 40) rfl rfl)))))))))))))))))))))))))))))))))))))))) rfl (jinb_of (by decide)) (by decide) ?_
      refine x_iinc (x := 34) (v := 35) (ls' := [(4, .int 35), (0, .ref 107), (1, .int a1), (2, .int a2), (3, .int a3)]) rfl rfl (by decide) rfl rfl ?_
      refine x_goto (tgt := 32) rfl rfl ?_
      refine x_iload (x := 35) rfl rfl ?_
      refine x_bipush (v := 40) rfl kb_40 ?_
      refine x_icge (tgt := 53) rfl rfl (br_f (by decide) ?_)
      refine x_aloadn (x := 107) rfl rfl ?_
      refine x_getR (b := 117) 4 13 rfl f_4_44 rfl (congrArg Prod.fst (sh_si (sh_si (sh_si (sh_si (sh_si (sh_si (sh_si (sh_si (sh_si (sh_si (sh_si (sh_si (sh_si (sh_si (sh_si (sh_si (sh_si (sh_si (sh_si (sh_si (sh_si (sh_si (sh_si (sh_si (sh_si (sh_si (sh_si (sh_si (sh_si (sh_si (sh_si (sh_si (sh_si (sh_si (sh_si (sh_si (sh_si (sh_si (sh_si (sh_si (F.1 107 (4, 18) rfl rfl)))))))))))))))))))))))))))))))))))))))))) (rv_si (rv_si (rv_si (rv_si (rv_si (rv_si (rv_si (rv_si (rv_si (rv_si (rv_si (rv_si (rv_si (rv_si (rv_si (rv_si (rv_si (rv_si (rv_si (rv_si (rv_si (rv_si (rv_si (rv_si (rv_si (rv_si (rv_si (rv_si (rv_si (rv_si (rv_si (rv_si (rv_si (rv_si (rv_si (rv_si (rv_si (rv_si (rv_si (rv_si (F.2.1 13709 117 rfl rfl))))))))))))))))))))))))))))))))))))))))) ?_
      refine x_iload (x := 35) rfl rfl ?_
      refine x_iconst (v := (-1)) rfl ki_m1 ?_
      refine y_iast (N := 40) 35 rfl (sh_si (sh_si (sh_si (sh_si (sh_si (sh_si (sh_si (sh_si (sh_si (sh_si (sh_si (sh_si (sh_si (sh_si (sh_si (sh_si (sh_si (sh_si (sh_si (sh_si (sh_si (sh_si (sh_si (sh_si (sh_si (sh_si (sh_si (sh_si (sh_si (sh_si (sh_si (sh_si (sh_si (sh_si (sh_si (sh_si (sh_si (sh_si (sh_si (sh_si (F.1 117 (100, 40) rfl rfl))))))))))))))))))))))))))))))))))))))))) rfl (jinb_of (by decide)) (by decide) ?_
      refine x_iinc (x := 35) (v := 36) (ls' := [(4, .int 36), (0, .ref 107), (1, .int a1), (2, .int a2), (3, .int a3)]) rfl rfl (by decide) rfl rfl ?_
      refine x_goto (tgt := 32) rfl rfl ?_
      refine x_iload (x := 36) rfl rfl ?_
      refine x_bipush (v := 40) rfl kb_40 ?_
      refine x_icge (tgt := 53) rfl rfl (br_f (by decide) ?_)
      refine x_aloadn (x := 107) rfl rfl ?_
      refine x_getR (b := 117) 4 13 rfl f_4_44 rfl (congrArg Prod.fst (sh_si (sh_si (sh_si (sh_si (sh_si (sh_si (sh_si (sh_si (sh_si (sh_si (sh_si (sh_si (sh_si (sh_si (sh_si (sh_si (sh_si (sh_si (sh_si (sh_si (sh_si (sh_si (sh_si (sh_si (sh_si (sh_si (sh_si (sh_si (sh_si (sh_si (sh_si (sh_si (sh_si (sh_si (sh_si (sh_si (sh_si (sh_si (sh_si (sh_si (sh_si (F.1 107 (4, 18) rfl rfl))))))))))))))))))))))))))))))))))))))))))) (rv_si (rv_si (rv_si (rv_si (rv_si (rv_si (rv_si (rv_si (rv_si (rv_si (rv_si (rv_si (rv_si (rv_si (rv_si (rv_si (rv_si (rv_si (rv_si (rv_si (rv_si (rv_si (rv_si (rv_si (rv_si (rv_si (rv_si (rv_si (rv_si (rv_si (rv_si (rv_si (rv_si (rv_si (rv_si (rv_si (rv_si (rv_si (rv_si (rv_si (rv_si (F.2.1 13709 117 rfl rfl)))))))))))))))))))))))))))))))))))))))))) ?_
      refine x_iload (x := 36) rfl rfl ?_
      refine x_iconst (v := (-1)) rfl ki_m1 ?_
      refine y_iast (N := 40) 36 rfl (sh_si (sh_si (sh_si (sh_si (sh_si (sh_si (sh_si (sh_si (sh_si (sh_si (sh_si (sh_si (sh_si (sh_si (sh_si (sh_si (sh_si (sh_si (sh_si (sh_si (sh_si (sh_si (sh_si (sh_si (sh_si (sh_si (sh_si (sh_si (sh_si (sh_si (sh_si (sh_si (sh_si (sh_si (sh_si (sh_si (sh_si (sh_si (sh_si (sh_si (sh_si (F.1 117 (100, 40) rfl rfl)))))))))))))))))))))))))))))))))))))))))) rfl (jinb_of (by decide)) (by decide) ?_
      refine x_iinc (x := 36) (v := 37) (ls' := [(4, .int 37), (0, .ref 107), (1, .int a1), (2, .int a2), (3, .int a3)]) rfl rfl (by decide) rfl rfl ?_
      refine x_goto (tgt := 32) rfl rfl ?_
      refine x_iload (x := 37) rfl rfl ?_
      refine x_bipush (v := 40) rfl kb_40 ?_
      refine x_icge (tgt := 53) rfl rfl (br_f (by decide) ?_)
      refine x_aloadn (x := 107) rfl rfl ?_
      refine x_getR (b := 117) 4 13 rfl f_4_44 rfl (congrArg Prod.fst (sh_si (sh_si (sh_si (sh_si (sh_si (sh_si (sh_si (sh_si (sh_si (sh_si (sh_si (sh_si (sh_si (sh_si (sh_si (sh_si (sh_si (sh_si (sh_si (sh_si (sh_si (sh_si (sh_si (sh_si (sh_si (sh_si (sh_si (sh_si (sh_si (sh_si (sh_si (sh_si (sh_si (sh_si (sh_si (sh_si (sh_si (sh_si (sh_si (sh_si (sh_si (sh_si (F.1 107 (4, 18) rfl rfl)))))))))))))))))))))))))))))))))))))))))))) (rv_si (rv_si (rv_si (rv_si (rv_si (rv_si (rv_si (rv_si (rv_si (rv_si (rv_si (rv_si (rv_si (rv_si (rv_si (rv_si (rv_si (rv_si (rv_si (rv_si (rv_si (rv_si (rv_si (rv_si (rv_si (rv_si (rv_si (rv_si (rv_si (rv_si (rv_si (rv_si (rv_si (rv_si (rv_si (rv_si (rv_si (rv_si (rv_si (rv_si (rv_si (rv_si (F.2.1 13709 117 rfl rfl))))))))))))))))))))))))))))))))))))))))))) ?_
      refine x_iload (x := 37) rfl rfl ?_
      refine x_iconst (v := (-1)) rfl ki_m1 ?_
      refine y_iast (N := 40) 37 rfl (sh_si (sh_si (sh_si (sh_si (sh_si (sh_si (sh_si (sh_si (sh_si (sh_si (sh_si (sh_si (sh_si (sh_si (sh_si (sh_si (sh_si (sh_si (sh_si (sh_si (sh_si (sh_si (sh_si (sh_si (sh_si (sh_si (sh_si (sh_si (sh_si (sh_si (sh_si (sh_si (sh_si (sh_si (sh_si (sh_si (sh_si (sh_si (sh_si (sh_si (sh_si (sh_si (F.1 117 (100, 40) rfl rfl))))))))))))))))))))))))))))))))))))))))))) rfl (jinb_of (by decide)) (by decide) ?_
      refine x_iinc (x := 37) (v := 38) (ls' := [(4, .int 38), (0, .ref 107), (1, .int a1), (2, .int a2), (3, .int a3)]) rfl rfl (by decide) rfl rfl ?_
      refine x_goto (tgt := 32) rfl rfl ?_
      refine x_iload (x := 38) rfl rfl ?_
      refine x_bipush (v := 40) rfl kb_40 ?_
      refine x_icge (tgt := 53) rfl rfl (br_f (by decide) ?_)
      refine x_aloadn (x := 107) rfl rfl ?_
      refine x_getR (b := 117) 4 13 rfl f_4_44 rfl (congrArg Prod.fst (sh_si (sh_si (sh_si (sh_si (sh_si (sh_si (sh_si (sh_si (sh_si (sh_si (sh_si (sh_si (sh_si (sh_si (sh_si (sh_si (sh_si (sh_si (sh_si (sh_si (sh_si (sh_si (sh_si (sh_si (sh_si (sh_si (sh_si (sh_si (sh_si (sh_si (sh_si (sh_si (sh_si (sh_si (sh_si (sh_si (sh_si (sh_si (sh_si (sh_si (sh_si (sh_si (sh_si (F.1 107 (4, 18) rfl rfl))))))))))))))))))))))))))))))))))))))))))))) (rv_si (rv_si (rv_si (rv_si (rv_si (rv_si (rv_si (rv_si (rv_si (rv_si (rv_si (rv_si (rv_si (rv_si (rv_si (rv_si (rv_si (rv_si (rv_si (rv_si (rv_si (rv_si (rv_si (rv_si (rv_si (rv_si (rv_si (rv_si (rv_si (rv_si (rv_si (rv_si (rv_si (rv_si (rv_si (rv_si (rv_si (rv_si (rv_si (rv_si (rv_si (rv_si (rv_si (F.2.1 13709 117 rfl rfl)))))))))))))))))))))))))))))))))))))))))))) ?_
      refine x_iload (x := 38) rfl rfl ?_
      refine x_iconst (v := (-1)) rfl ki_m1 ?_
      refine y_iast (N := 40) 38 rfl (sh_si (sh_si (sh_si (sh_si (sh_si (sh_si (sh_si (sh_si (sh_si (sh_si (sh_si (sh_si (sh_si (sh_si (sh_si (sh_si (sh_si (sh_si (sh_si (sh_si (sh_si (sh_si (sh_si (sh_si (sh_si (sh_si (sh_si (sh_si (sh_si (sh_si (sh_si (sh_si (sh_si (sh_si (sh_si (sh_si (sh_si (sh_si (sh_si (sh_si (sh_si (sh_si (sh_si (F.1 117 (100, 40) rfl rfl)))))))))))))))))))))))))))))))))))))))))))) rfl (jinb_of (by decide)) (by decide) ?_
      refine x_iinc (x := 38) (v := 39) (ls' := [(4, .int 39), (0, .ref 107), (1, .int a1), (2, .int a2), (3, .int a3)]) rfl rfl (by decide) rfl rfl ?_
      refine x_goto (tgt := 32) rfl rfl ?_
      refine x_iload (x := 39) rfl rfl ?_
      refine x_bipush (v := 40) rfl kb_40 ?_
      refine x_icge (tgt := 53) rfl rfl (br_f (by decide) ?_)
      refine x_aloadn (x := 107) rfl rfl ?_
      refine x_getR (b := 117) 4 13 rfl f_4_44 rfl (congrArg Prod.fst (sh_si (sh_si (sh_si (sh_si (sh_si (sh_si (sh_si (sh_si (sh_si (sh_si (sh_si (sh_si (sh_si (sh_si (sh_si (sh_si (sh_si (sh_si (sh_si (sh_si (sh_si (sh_si (sh_si (sh_si (sh_si (sh_si (sh_si (sh_si (sh_si (sh_si (sh_si (sh_si (sh_si (sh_si (sh_si (sh_si (sh_si (sh_si (sh_si (sh_si (sh_si (sh_si (sh_si (sh_si (F.1 107 (4, 18) rfl rfl)))))))))))))))))))))))))))))))))))))))))))))) (rv_si (rv_si (rv_si (rv_si (rv_si (rv_si (rv_si (rv_si (rv_si (rv_si (rv_si (rv_si (rv_si (rv_si (rv_si (rv_si (rv_si (rv_si (rv_si (rv_si (rv_si (rv_si (rv_si (rv_si (rv_si (rv_si (rv_si (rv_si (rv_si (rv_si (rv_si (rv_si (rv_si (rv_si (rv_si (rv_si (rv_si (rv_si (rv_si (rv_si (rv_si (rv_si (rv_si (rv_si (F.2.1 13709 117 rfl rfl))))))))))))))))))))))))))))))))))))))))))))) ?_
      refine x_iload (x := 39) rfl rfl ?_
      refine x_iconst (v := (-1)) rfl ki_m1 ?_
      refine y_iast (N := 40) 39 rfl (sh_si (sh_si (sh_si (sh_si (sh_si (sh_si (sh_si (sh_si (sh_si (sh_si (sh_si (sh_si (sh_si (sh_si (sh_si (sh_si (sh_si (sh_si (sh_si (sh_si (sh_si (sh_si (sh_si (sh_si (sh_si (sh_si (sh_si (sh_si (sh_si (sh_si (sh_si (sh_si (sh_si (sh_si (sh_si (sh_si (sh_si (sh_si (sh_si (sh_si (sh_si (sh_si (sh_si (sh_si (F.1 117 (100, 40) rfl rfl))))))))))))))))))))))))))))))))))))))))))))) rfl (jinb_of (by decide)) (by decide) ?_
      refine x_iinc (x := 39) (v := 40) (ls' := [(4, .int 40), (0, .ref 107), (1, .int a1), (2, .int a2), (3, .int a3)]) rfl rfl (by decide) rfl rfl ?_
      refine x_goto (tgt := 32) rfl rfl ?_
      refine x_iload (x := 40) rfl rfl ?_
      refine x_bipush (v := 40) rfl kb_40 ?_
      refine x_icge (tgt := 53) rfl rfl (br_t (by decide) ?_)
      exact ct_run ha (fun m h e T => hQ h m e T) (a2.toInt + 1).toNat 0 (by omega) _ _ ⟨(jFe_sa rfl rfl (jFe_sa rfl rfl (jFe_sa rfl rfl (jFe_sa rfl rfl (jFe_sa rfl rfl (jFe_sa rfl rfl (jFe_sa rfl rfl (jFe_sa rfl rfl (jFe_sa rfl rfl (jFe_sa rfl rfl (jFe_sa rfl rfl (jFe_sa rfl rfl (jFe_sa rfl rfl (jFe_sa rfl rfl (jFe_sa rfl rfl (jFe_sa rfl rfl (jFe_sa rfl rfl (jFe_sa rfl rfl (jFe_sa rfl rfl (jFe_sa rfl rfl (jFe_sa rfl rfl (jFe_sa rfl rfl (jFe_sa rfl rfl (jFe_sa rfl rfl (jFe_sa rfl rfl (jFe_sa rfl rfl (jFe_sa rfl rfl (jFe_sa rfl rfl (jFe_sa rfl rfl (jFe_sa rfl rfl (jFe_sa rfl rfl (jFe_sa rfl rfl (jFe_sa rfl rfl (jFe_sa rfl rfl (jFe_sa rfl rfl (jFe_sa rfl rfl (jFe_sa rfl rfl (jFe_sa rfl rfl (jFe_sa rfl rfl (jFe_sa rfl rfl (jFe_sf rfl rfl rfl (jFe_sf rfl rfl rfl (jFe_sa rfl rfl (jFe_sa rfl rfl (jFe_sa rfl rfl (jFe_up rfl rfl F)))))))))))))))))))))))))))))))))))))))))))))), (jFb_si rfl (jFb_si rfl (jFb_si rfl (jFb_si rfl (jFb_si rfl (jFb_si rfl (jFb_si rfl (jFb_si rfl (jFb_si rfl (jFb_si rfl (jFb_si rfl (jFb_si rfl (jFb_si rfl (jFb_si rfl (jFb_si rfl (jFb_si rfl (jFb_si rfl (jFb_si rfl (jFb_si rfl (jFb_si rfl (jFb_si rfl (jFb_si rfl (jFb_si rfl (jFb_si rfl (jFb_si rfl (jFb_si rfl (jFb_si rfl (jFb_si rfl (jFb_si rfl (jFb_si rfl (jFb_si rfl (jFb_si rfl (jFb_si rfl (jFb_si rfl (jFb_si rfl (jFb_si rfl (jFb_si rfl (jFb_si rfl (jFb_si rfl (jFb_si rfl (jFb_si rfl (jFb_si rfl (jFb_si rfl (jFb_si rfl (jFb_si rfl FM))))))))))))))))))))))))))))))))))))))))))))), (jOl_si rfl (jOl_si rfl (jOl_si rfl (jOl_si rfl (jOl_si rfl (jOl_si rfl (jOl_si rfl (jOl_si rfl (jOl_si rfl (jOl_si rfl (jOl_si rfl (jOl_si rfl (jOl_si rfl (jOl_si rfl (jOl_si rfl (jOl_si rfl (jOl_si rfl (jOl_si rfl (jOl_si rfl (jOl_si rfl (jOl_si rfl (jOl_si rfl (jOl_si rfl (jOl_si rfl (jOl_si rfl (jOl_si rfl (jOl_si rfl (jOl_si rfl (jOl_si rfl (jOl_si rfl (jOl_si rfl (jOl_si rfl (jOl_si rfl (jOl_si rfl (jOl_si rfl (jOl_si rfl (jOl_si rfl (jOl_si rfl (jOl_si rfl (jOl_si rfl (jOl_si rfl (jOl_si rfl (jOl_si rfl (jOl_si rfl (jOl_si rfl O))))))))))))))))))))))))))))))))))))))))))))), (iv_si rfl (iv_si rfl (iv_si rfl (iv_si rfl (iv_si rfl (iv_si rfl (iv_si rfl (iv_si rfl (iv_si rfl (iv_si rfl (iv_si rfl (iv_si rfl (iv_si rfl (iv_si rfl (iv_si rfl (iv_si rfl (iv_si rfl (iv_si rfl (iv_si rfl (iv_si rfl (iv_si rfl (iv_si rfl (iv_si rfl (iv_si rfl (iv_si rfl (iv_si rfl (iv_si rfl (iv_si rfl (iv_si rfl (iv_si rfl (iv_si rfl (iv_si rfl (iv_si rfl (iv_si rfl (iv_si rfl (iv_si rfl (iv_si rfl (iv_si rfl (iv_si rfl (iv_si rfl (iv_si rfl iv_eq))))))))))))))))))))))))))))))))))))))))), jarr0, jarr0⟩
set_option maxRecDepth 100000 in
set_option maxHeartbeats 40000000 in
theorem ct_un {a2 : Int32} {h : jH} {Q : Option Value → jH → Prop} {m : Nat} (ha : 0 ≤ a2.toInt ∧ a2.toInt ≤ 399) (hm : (m : Int) = a2.toInt + 1) (F : jFe jXIt jXAt 31 h) (SB : ∀ j, j < m → jiv h 115 j = -1) (hQ : Q (some (.int 0)) h) : ∀ r y : Nat, (r : Int) + y = a2.toInt + 1 → jX m_X4_unevenness 99 0 0 23 [(2, .int (nI y)), (0, .ref 107), (1, .int a2)] [] h 0 0 Q := by
  intro r
  induction r with
  | zero =>
    intro y hr
    have hy : (nI y).toInt = (y : Int) := jnIt (by omega)
    refine x_iloadn (x := nI y) rfl rfl ?_
    refine x_iloadn (x := a2) rfl rfl ?_
    refine x_icgt (tgt := 68) rfl rfl (ti_gt (show (nI y : Int32).toInt = (nI y).toInt from rfl) (show (a2 : Int32).toInt = a2.toInt from rfl) ⟨fun c1 => ?_, fun c1 => ?_⟩)
    ·
      refine x_iconst (v := 0) rfl ki_0 ?_
      refine x_istoren (ls' := [(2, .int 0), (0, .ref 107), (1, .int a2)]) rfl rfl rfl ?_
      refine x_aloadn (x := 107) rfl rfl ?_
      refine x_inv (N := m_X4_houses) (As := []) (b := 107) (st := []) (d' := 98) (mc := 0) (ms := 0) (host := "") 4 rfl t_X4_houses ⟨Or.inl q_4_107, i_X4_houses.1, i_X4_houses.2⟩ ⟨by decide, rfl⟩ (congrArg Prod.fst (F.1 107 (4, 18) rfl rfl)) rfl (by decide) rfl rfl ⟨by decide, by decide⟩ (jC.of rfl k_X4_houses rfl ?_)
      show jX m_X4_houses 98 0 0 0 [(0, .ref 107)] [] _ 0 0 _
      refine x_bipush (v := 40) rfl kb_40 ?_
      refine x_aloadn (x := 107) rfl rfl ?_
      refine x_getR (b := 32) 4 0 rfl f_4_59 rfl (congrArg Prod.fst (F.1 107 (4, 18) rfl rfl)) (F.2.1 13696 32 rfl rfl) ?_
      refine x_getR (b := 49) 1 8 rfl f_4_71 rfl (congrArg Prod.fst (F.1 32 (1, 20) rfl rfl)) (F.2.1 4104 49 rfl rfl) ?_
      refine y_getI (v := 0) 8 3 rfl f_4_77 rfl (congrArg Prod.fst (F.1 49 (8, 4) rfl rfl)) (F.2.2.1 6275 0 rfl rfl rfl) ?_
      refine x_mmin rfl q_4_82 (by decide) rfl (br_t (by decide) ?_)
      refine x_iret rfl rfl ?_
      show jX m_X4_unevenness 99 0 0 74 [(2, .int 0), (0, .ref 107), (1, .int a2)] [.int 0] _ 0 0 _
      refine x_ifne (tgt := 81) rfl rfl (bn_f (by decide) ?_)
      refine x_iconst (v := 0) rfl ki_0 ?_
      refine x_goto (tgt := 84) rfl rfl ?_
      refine x_istoren (ls' := [(3, .int 0), (2, .int 0), (0, .ref 107), (1, .int a2)]) rfl rfl rfl ?_
      refine x_iconst (v := 0) rfl ki_0 ?_
      refine x_istore (ls' := [(4, .int 0), (3, .int 0), (2, .int 0), (0, .ref 107), (1, .int a2)]) rfl rfl rfl ?_
      refine x_iload (x := 0) rfl rfl ?_
      refine x_aloadn (x := 107) rfl rfl ?_
      refine x_inv (N := m_X4_houses) (As := []) (b := 107) (st := [.int 0]) (d' := 98) (mc := 0) (ms := 0) (host := "") 4 rfl t_X4_houses ⟨Or.inl q_4_107, i_X4_houses.1, i_X4_houses.2⟩ ⟨by decide, rfl⟩ (congrArg Prod.fst (F.1 107 (4, 18) rfl rfl)) rfl (by decide) rfl rfl ⟨by decide, by decide⟩ (jC.of rfl k_X4_houses rfl ?_)
      show jX m_X4_houses 98 0 0 0 [(0, .ref 107)] [] _ 0 0 _
      refine x_bipush (v := 40) rfl kb_40 ?_
      refine x_aloadn (x := 107) rfl rfl ?_
      refine x_getR (b := 32) 4 0 rfl f_4_59 rfl (congrArg Prod.fst (F.1 107 (4, 18) rfl rfl)) (F.2.1 13696 32 rfl rfl) ?_
      refine x_getR (b := 49) 1 8 rfl f_4_71 rfl (congrArg Prod.fst (F.1 32 (1, 20) rfl rfl)) (F.2.1 4104 49 rfl rfl) ?_
      refine y_getI (v := 0) 8 3 rfl f_4_77 rfl (congrArg Prod.fst (F.1 49 (8, 4) rfl rfl)) (F.2.2.1 6275 0 rfl rfl rfl) ?_
      refine x_mmin rfl q_4_82 (by decide) rfl (br_t (by decide) ?_)
      refine x_iret rfl rfl ?_
      show jX m_X4_unevenness 99 0 0 94 [(4, .int 0), (3, .int 0), (2, .int 0), (0, .ref 107), (1, .int a2)] [.int 0, .int 0] _ 0 0 _
      refine x_icge (tgt := 127) rfl rfl (br_t (by decide) ?_)
      refine x_iloadn (x := 0) rfl rfl ?_
      refine x_iloadn (x := 0) rfl rfl ?_
      refine y_isub (v := 0) rfl (by decide) ?_
      refine x_iret rfl rfl ?_
      exact hQ
    ·
      exfalso
      omega
  | succ r ih =>
    intro y hr
    have hy : (nI y).toInt = (y : Int) := jnIt (by omega)
    refine x_iloadn (x := nI y) rfl rfl ?_
    refine x_iloadn (x := a2) rfl rfl ?_
    refine x_icgt (tgt := 68) rfl rfl (ti_gt (show (nI y : Int32).toInt = (nI y).toInt from rfl) (show (a2 : Int32).toInt = a2.toInt from rfl) ⟨fun c1 => ?_, fun c1 => ?_⟩)
    ·
      refine x_iconst (v := 0) rfl ki_0 ?_
      refine x_istoren (ls' := [(2, .int 0), (0, .ref 107), (1, .int a2)]) rfl rfl rfl ?_
      refine x_aloadn (x := 107) rfl rfl ?_
      refine x_inv (N := m_X4_houses) (As := []) (b := 107) (st := []) (d' := 98) (mc := 0) (ms := 0) (host := "") 4 rfl t_X4_houses ⟨Or.inl q_4_107, i_X4_houses.1, i_X4_houses.2⟩ ⟨by decide, rfl⟩ (congrArg Prod.fst (F.1 107 (4, 18) rfl rfl)) rfl (by decide) rfl rfl ⟨by decide, by decide⟩ (jC.of rfl k_X4_houses rfl ?_)
      show jX m_X4_houses 98 0 0 0 [(0, .ref 107)] [] _ 0 0 _
      refine x_bipush (v := 40) rfl kb_40 ?_
      refine x_aloadn (x := 107) rfl rfl ?_
      refine x_getR (b := 32) 4 0 rfl f_4_59 rfl (congrArg Prod.fst (F.1 107 (4, 18) rfl rfl)) (F.2.1 13696 32 rfl rfl) ?_
      refine x_getR (b := 49) 1 8 rfl f_4_71 rfl (congrArg Prod.fst (F.1 32 (1, 20) rfl rfl)) (F.2.1 4104 49 rfl rfl) ?_
      refine y_getI (v := 0) 8 3 rfl f_4_77 rfl (congrArg Prod.fst (F.1 49 (8, 4) rfl rfl)) (F.2.2.1 6275 0 rfl rfl rfl) ?_
      refine x_mmin rfl q_4_82 (by decide) rfl (br_t (by decide) ?_)
      refine x_iret rfl rfl ?_
      show jX m_X4_unevenness 99 0 0 74 [(2, .int 0), (0, .ref 107), (1, .int a2)] [.int 0] _ 0 0 _
      refine x_ifne (tgt := 81) rfl rfl (bn_f (by decide) ?_)
      refine x_iconst (v := 0) rfl ki_0 ?_
      refine x_goto (tgt := 84) rfl rfl ?_
      refine x_istoren (ls' := [(3, .int 0), (2, .int 0), (0, .ref 107), (1, .int a2)]) rfl rfl rfl ?_
      refine x_iconst (v := 0) rfl ki_0 ?_
      refine x_istore (ls' := [(4, .int 0), (3, .int 0), (2, .int 0), (0, .ref 107), (1, .int a2)]) rfl rfl rfl ?_
      refine x_iload (x := 0) rfl rfl ?_
      refine x_aloadn (x := 107) rfl rfl ?_
      refine x_inv (N := m_X4_houses) (As := []) (b := 107) (st := [.int 0]) (d' := 98) (mc := 0) (ms := 0) (host := "") 4 rfl t_X4_houses ⟨Or.inl q_4_107, i_X4_houses.1, i_X4_houses.2⟩ ⟨by decide, rfl⟩ (congrArg Prod.fst (F.1 107 (4, 18) rfl rfl)) rfl (by decide) rfl rfl ⟨by decide, by decide⟩ (jC.of rfl k_X4_houses rfl ?_)
      show jX m_X4_houses 98 0 0 0 [(0, .ref 107)] [] _ 0 0 _
      refine x_bipush (v := 40) rfl kb_40 ?_
      refine x_aloadn (x := 107) rfl rfl ?_
      refine x_getR (b := 32) 4 0 rfl f_4_59 rfl (congrArg Prod.fst (F.1 107 (4, 18) rfl rfl)) (F.2.1 13696 32 rfl rfl) ?_
      refine x_getR (b := 49) 1 8 rfl f_4_71 rfl (congrArg Prod.fst (F.1 32 (1, 20) rfl rfl)) (F.2.1 4104 49 rfl rfl) ?_
      refine y_getI (v := 0) 8 3 rfl f_4_77 rfl (congrArg Prod.fst (F.1 49 (8, 4) rfl rfl)) (F.2.2.1 6275 0 rfl rfl rfl) ?_
      refine x_mmin rfl q_4_82 (by decide) rfl (br_t (by decide) ?_)
      refine x_iret rfl rfl ?_
      show jX m_X4_unevenness 99 0 0 94 [(4, .int 0), (3, .int 0), (2, .int 0), (0, .ref 107), (1, .int a2)] [.int 0, .int 0] _ 0 0 _
      refine x_icge (tgt := 127) rfl rfl (br_t (by decide) ?_)
      refine x_iloadn (x := 0) rfl rfl ?_
      refine x_iloadn (x := 0) rfl rfl ?_
      refine y_isub (v := 0) rfl (by decide) ?_
      refine x_iret rfl rfl ?_
      exact hQ
    ·
      refine x_iloadn (x := nI y) rfl rfl ?_
      refine x_sipush (v := 399) rfl ks_399 ?_
      refine x_icgt (tgt := 68) rfl rfl (ti_gt (show (nI y : Int32).toInt = (nI y).toInt from rfl) (show (399 : Int32).toInt = 399 by decide) ⟨fun c2 => ?_, fun c2 => ?_⟩)
      ·
        refine x_iconst (v := 0) rfl ki_0 ?_
        refine x_istoren (ls' := [(2, .int 0), (0, .ref 107), (1, .int a2)]) rfl rfl rfl ?_
        refine x_aloadn (x := 107) rfl rfl ?_
        refine x_inv (N := m_X4_houses) (As := []) (b := 107) (st := []) (d' := 98) (mc := 0) (ms := 0) (host := "") 4 rfl t_X4_houses ⟨Or.inl q_4_107, i_X4_houses.1, i_X4_houses.2⟩ ⟨by decide, rfl⟩ (congrArg Prod.fst (F.1 107 (4, 18) rfl rfl)) rfl (by decide) rfl rfl ⟨by decide, by decide⟩ (jC.of rfl k_X4_houses rfl ?_)
        show jX m_X4_houses 98 0 0 0 [(0, .ref 107)] [] _ 0 0 _
        refine x_bipush (v := 40) rfl kb_40 ?_
        refine x_aloadn (x := 107) rfl rfl ?_
        refine x_getR (b := 32) 4 0 rfl f_4_59 rfl (congrArg Prod.fst (F.1 107 (4, 18) rfl rfl)) (F.2.1 13696 32 rfl rfl) ?_
        refine x_getR (b := 49) 1 8 rfl f_4_71 rfl (congrArg Prod.fst (F.1 32 (1, 20) rfl rfl)) (F.2.1 4104 49 rfl rfl) ?_
        refine y_getI (v := 0) 8 3 rfl f_4_77 rfl (congrArg Prod.fst (F.1 49 (8, 4) rfl rfl)) (F.2.2.1 6275 0 rfl rfl rfl) ?_
        refine x_mmin rfl q_4_82 (by decide) rfl (br_t (by decide) ?_)
        refine x_iret rfl rfl ?_
        show jX m_X4_unevenness 99 0 0 74 [(2, .int 0), (0, .ref 107), (1, .int a2)] [.int 0] _ 0 0 _
        refine x_ifne (tgt := 81) rfl rfl (bn_f (by decide) ?_)
        refine x_iconst (v := 0) rfl ki_0 ?_
        refine x_goto (tgt := 84) rfl rfl ?_
        refine x_istoren (ls' := [(3, .int 0), (2, .int 0), (0, .ref 107), (1, .int a2)]) rfl rfl rfl ?_
        refine x_iconst (v := 0) rfl ki_0 ?_
        refine x_istore (ls' := [(4, .int 0), (3, .int 0), (2, .int 0), (0, .ref 107), (1, .int a2)]) rfl rfl rfl ?_
        refine x_iload (x := 0) rfl rfl ?_
        refine x_aloadn (x := 107) rfl rfl ?_
        refine x_inv (N := m_X4_houses) (As := []) (b := 107) (st := [.int 0]) (d' := 98) (mc := 0) (ms := 0) (host := "") 4 rfl t_X4_houses ⟨Or.inl q_4_107, i_X4_houses.1, i_X4_houses.2⟩ ⟨by decide, rfl⟩ (congrArg Prod.fst (F.1 107 (4, 18) rfl rfl)) rfl (by decide) rfl rfl ⟨by decide, by decide⟩ (jC.of rfl k_X4_houses rfl ?_)
        show jX m_X4_houses 98 0 0 0 [(0, .ref 107)] [] _ 0 0 _
        refine x_bipush (v := 40) rfl kb_40 ?_
        refine x_aloadn (x := 107) rfl rfl ?_
        refine x_getR (b := 32) 4 0 rfl f_4_59 rfl (congrArg Prod.fst (F.1 107 (4, 18) rfl rfl)) (F.2.1 13696 32 rfl rfl) ?_
        refine x_getR (b := 49) 1 8 rfl f_4_71 rfl (congrArg Prod.fst (F.1 32 (1, 20) rfl rfl)) (F.2.1 4104 49 rfl rfl) ?_
        refine y_getI (v := 0) 8 3 rfl f_4_77 rfl (congrArg Prod.fst (F.1 49 (8, 4) rfl rfl)) (F.2.2.1 6275 0 rfl rfl rfl) ?_
        refine x_mmin rfl q_4_82 (by decide) rfl (br_t (by decide) ?_)
        refine x_iret rfl rfl ?_
        show jX m_X4_unevenness 99 0 0 94 [(4, .int 0), (3, .int 0), (2, .int 0), (0, .ref 107), (1, .int a2)] [.int 0, .int 0] _ 0 0 _
        refine x_icge (tgt := 127) rfl rfl (br_t (by decide) ?_)
        refine x_iloadn (x := 0) rfl rfl ?_
        refine x_iloadn (x := 0) rfl rfl ?_
        refine y_isub (v := 0) rfl (by decide) ?_
        refine x_iret rfl rfl ?_
        exact hQ
      ·
        refine x_aloadn (x := 107) rfl rfl ?_
        refine x_getR (b := 115) 4 11 rfl f_4_38 rfl (congrArg Prod.fst (F.1 107 (4, 18) rfl rfl)) (F.2.1 13707 115 rfl rfl) ?_
        refine x_iloadn (x := nI y) rfl rfl ?_
        refine y_iald (v := (-1)) (N := 400) (nI y).toNatClampNeg rfl (F.1 115 (100, 400) rfl rfl) (vpi (by omega)) rfl (SB _ (jclt (by omega))) ?_
        refine x_istoren (ls' := [(3, .int (-1)), (2, .int (nI y)), (0, .ref 107), (1, .int a2)]) rfl rfl rfl ?_
        refine x_iloadn (x := (-1)) rfl rfl ?_
        refine x_iflt (tgt := 62) rfl rfl (br_t (by decide) ?_)
        refine x_iinc (x := nI y) (v := nI y + Int32.ofInt 1) (ls' := [(2, .int (nI y + Int32.ofInt 1)), (3, .int (-1)), (0, .ref 107), (1, .int a2)]) rfl rfl rfl rfl rfl ?_
        refine x_goto (tgt := 23) rfl rfl ?_
        rw [jnI1 y]
        exact jX.less (by simp) (ih (y + 1) (by omega))
set_option maxRecDepth 100000 in
set_option maxHeartbeats 40000000 in
theorem c_uneven {a2 : Int32} {m : Nat} {xs : Nat → Int32} {h : jH} {Q : Option Value → jH → Prop} (ha : 0 ≤ a2.toInt ∧ a2.toInt ≤ 399) (hm : (m : Int) = a2.toInt + 1) (F : jFe jXIt jXAt 31 h) (FM : jFb 125 h) (O : jOl 7 xs h) (SB : ∀ j, j < m → jiv h 115 j = -1) (hQ : ∀ h', jFb 125 h' → jOl 7 xs h' → Q (some (.int 0)) h') : jC m_X4_unevenness 99 0 0 [.ref 107, .int a2] h Q := by
  refine jC.of rfl k_X4_unevenness rfl ?_
  show jX m_X4_unevenness 99 0 0 0 [(0, .ref 107), (1, .int a2)] [] _ 0 0 _
  refine x_iconst (v := 0) rfl ki_0 ?_
  refine x_istoren (ls' := [(2, .int 0), (0, .ref 107), (1, .int a2)]) rfl rfl rfl ?_
  refine x_iloadn (x := 0) rfl rfl ?_
  refine x_bipush (v := 40) rfl kb_40 ?_
  refine x_icge (tgt := 21) rfl rfl (br_f (by decide) ?_)
  refine x_aloadn (x := 107) rfl rfl ?_
  refine x_getR (b := 118) 4 14 rfl f_4_47 rfl (congrArg Prod.fst (F.1 107 (4, 18) rfl rfl)) (F.2.1 13710 118 rfl rfl) ?_
  refine x_iloadn (x := 0) rfl rfl ?_
  refine x_iconst (v := 0) rfl ki_0 ?_
  refine y_iast (N := 40) 0 rfl (F.1 118 (100, 40) rfl rfl) rfl (jinb_of (by decide)) (by decide) ?_
  refine x_iinc (x := 0) (v := 1) (ls' := [(2, .int 1), (0, .ref 107), (1, .int a2)]) rfl rfl (by decide) rfl rfl ?_
  refine x_goto (tgt := 2) rfl rfl ?_
  refine x_iloadn (x := 1) rfl rfl ?_
  refine x_bipush (v := 40) rfl kb_40 ?_
  refine x_icge (tgt := 21) rfl rfl (br_f (by decide) ?_)
  refine x_aloadn (x := 107) rfl rfl ?_
  refine x_getR (b := 118) 4 14 rfl f_4_47 rfl (congrArg Prod.fst (sh_si (F.1 107 (4, 18) rfl rfl))) (rv_si (F.2.1 13710 118 rfl rfl)) ?_
  refine x_iloadn (x := 1) rfl rfl ?_
  refine x_iconst (v := 0) rfl ki_0 ?_
  refine y_iast (N := 40) 1 rfl (sh_si (F.1 118 (100, 40) rfl rfl)) rfl (jinb_of (by decide)) (by decide) ?_
  refine x_iinc (x := 1) (v := 2) (ls' := [(2, .int 2), (0, .ref 107), (1, .int a2)]) rfl rfl (by decide) rfl rfl ?_
  refine x_goto (tgt := 2) rfl rfl ?_
  refine x_iloadn (x := 2) rfl rfl ?_
  refine x_bipush (v := 40) rfl kb_40 ?_
  refine x_icge (tgt := 21) rfl rfl (br_f (by decide) ?_)
  refine x_aloadn (x := 107) rfl rfl ?_
  refine x_getR (b := 118) 4 14 rfl f_4_47 rfl (congrArg Prod.fst (sh_si (sh_si (F.1 107 (4, 18) rfl rfl)))) (rv_si (rv_si (F.2.1 13710 118 rfl rfl))) ?_
  refine x_iloadn (x := 2) rfl rfl ?_
  refine x_iconst (v := 0) rfl ki_0 ?_
  refine y_iast (N := 40) 2 rfl (sh_si (sh_si (F.1 118 (100, 40) rfl rfl))) rfl (jinb_of (by decide)) (by decide) ?_
  refine x_iinc (x := 2) (v := 3) (ls' := [(2, .int 3), (0, .ref 107), (1, .int a2)]) rfl rfl (by decide) rfl rfl ?_
  refine x_goto (tgt := 2) rfl rfl ?_
  refine x_iloadn (x := 3) rfl rfl ?_
  refine x_bipush (v := 40) rfl kb_40 ?_
  refine x_icge (tgt := 21) rfl rfl (br_f (by decide) ?_)
  refine x_aloadn (x := 107) rfl rfl ?_
  refine x_getR (b := 118) 4 14 rfl f_4_47 rfl (congrArg Prod.fst (sh_si (sh_si (sh_si (F.1 107 (4, 18) rfl rfl))))) (rv_si (rv_si (rv_si (F.2.1 13710 118 rfl rfl)))) ?_
  refine x_iloadn (x := 3) rfl rfl ?_
  refine x_iconst (v := 0) rfl ki_0 ?_
  refine y_iast (N := 40) 3 rfl (sh_si (sh_si (sh_si (F.1 118 (100, 40) rfl rfl)))) rfl (jinb_of (by decide)) (by decide) ?_
  refine x_iinc (x := 3) (v := 4) (ls' := [(2, .int 4), (0, .ref 107), (1, .int a2)]) rfl rfl (by decide) rfl rfl ?_
  refine x_goto (tgt := 2) rfl rfl ?_
  refine x_iloadn (x := 4) rfl rfl ?_
  refine x_bipush (v := 40) rfl kb_40 ?_
  refine x_icge (tgt := 21) rfl rfl (br_f (by decide) ?_)
  refine x_aloadn (x := 107) rfl rfl ?_
  refine x_getR (b := 118) 4 14 rfl f_4_47 rfl (congrArg Prod.fst (sh_si (sh_si (sh_si (sh_si (F.1 107 (4, 18) rfl rfl)))))) (rv_si (rv_si (rv_si (rv_si (F.2.1 13710 118 rfl rfl))))) ?_
  refine x_iloadn (x := 4) rfl rfl ?_
  refine x_iconst (v := 0) rfl ki_0 ?_
  refine y_iast (N := 40) 4 rfl (sh_si (sh_si (sh_si (sh_si (F.1 118 (100, 40) rfl rfl))))) rfl (jinb_of (by decide)) (by decide) ?_
  refine x_iinc (x := 4) (v := 5) (ls' := [(2, .int 5), (0, .ref 107), (1, .int a2)]) rfl rfl (by decide) rfl rfl ?_
  refine x_goto (tgt := 2) rfl rfl ?_
  refine x_iloadn (x := 5) rfl rfl ?_
  refine x_bipush (v := 40) rfl kb_40 ?_
  refine x_icge (tgt := 21) rfl rfl (br_f (by decide) ?_)
  refine x_aloadn (x := 107) rfl rfl ?_
  refine x_getR (b := 118) 4 14 rfl f_4_47 rfl (congrArg Prod.fst (sh_si (sh_si (sh_si (sh_si (sh_si (F.1 107 (4, 18) rfl rfl))))))) (rv_si (rv_si (rv_si (rv_si (rv_si (F.2.1 13710 118 rfl rfl)))))) ?_
  refine x_iloadn (x := 5) rfl rfl ?_
  refine x_iconst (v := 0) rfl ki_0 ?_
  refine y_iast (N := 40) 5 rfl (sh_si (sh_si (sh_si (sh_si (sh_si (F.1 118 (100, 40) rfl rfl)))))) rfl (jinb_of (by decide)) (by decide) ?_
  refine x_iinc (x := 5) (v := 6) (ls' := [(2, .int 6), (0, .ref 107), (1, .int a2)]) rfl rfl (by decide) rfl rfl ?_
  refine x_goto (tgt := 2) rfl rfl ?_
  refine x_iloadn (x := 6) rfl rfl ?_
  refine x_bipush (v := 40) rfl kb_40 ?_
  refine x_icge (tgt := 21) rfl rfl (br_f (by decide) ?_)
  refine x_aloadn (x := 107) rfl rfl ?_
  refine x_getR (b := 118) 4 14 rfl f_4_47 rfl (congrArg Prod.fst (sh_si (sh_si (sh_si (sh_si (sh_si (sh_si (F.1 107 (4, 18) rfl rfl)))))))) (rv_si (rv_si (rv_si (rv_si (rv_si (rv_si (F.2.1 13710 118 rfl rfl))))))) ?_
  refine x_iloadn (x := 6) rfl rfl ?_
  refine x_iconst (v := 0) rfl ki_0 ?_
  refine y_iast (N := 40) 6 rfl (sh_si (sh_si (sh_si (sh_si (sh_si (sh_si (F.1 118 (100, 40) rfl rfl))))))) rfl (jinb_of (by decide)) (by decide) ?_
  refine x_iinc (x := 6) (v := 7) (ls' := [(2, .int 7), (0, .ref 107), (1, .int a2)]) rfl rfl (by decide) rfl rfl ?_
  refine x_goto (tgt := 2) rfl rfl ?_
  refine x_iloadn (x := 7) rfl rfl ?_
  refine x_bipush (v := 40) rfl kb_40 ?_
  refine x_icge (tgt := 21) rfl rfl (br_f (by decide) ?_)
  refine x_aloadn (x := 107) rfl rfl ?_
  refine x_getR (b := 118) 4 14 rfl f_4_47 rfl (congrArg Prod.fst (sh_si (sh_si (sh_si (sh_si (sh_si (sh_si (sh_si (F.1 107 (4, 18) rfl rfl))))))))) (rv_si (rv_si (rv_si (rv_si (rv_si (rv_si (rv_si (F.2.1 13710 118 rfl rfl)))))))) ?_
  refine x_iloadn (x := 7) rfl rfl ?_
  refine x_iconst (v := 0) rfl ki_0 ?_
  refine y_iast (N := 40) 7 rfl (sh_si (sh_si (sh_si (sh_si (sh_si (sh_si (sh_si (F.1 118 (100, 40) rfl rfl)))))))) rfl (jinb_of (by decide)) (by decide) ?_
  refine x_iinc (x := 7) (v := 8) (ls' := [(2, .int 8), (0, .ref 107), (1, .int a2)]) rfl rfl (by decide) rfl rfl ?_
  refine x_goto (tgt := 2) rfl rfl ?_
  refine x_iloadn (x := 8) rfl rfl ?_
  refine x_bipush (v := 40) rfl kb_40 ?_
  refine x_icge (tgt := 21) rfl rfl (br_f (by decide) ?_)
  refine x_aloadn (x := 107) rfl rfl ?_
  refine x_getR (b := 118) 4 14 rfl f_4_47 rfl (congrArg Prod.fst (sh_si (sh_si (sh_si (sh_si (sh_si (sh_si (sh_si (sh_si (F.1 107 (4, 18) rfl rfl)))))))))) (rv_si (rv_si (rv_si (rv_si (rv_si (rv_si (rv_si (rv_si (F.2.1 13710 118 rfl rfl))))))))) ?_
  refine x_iloadn (x := 8) rfl rfl ?_
  refine x_iconst (v := 0) rfl ki_0 ?_
  refine y_iast (N := 40) 8 rfl (sh_si (sh_si (sh_si (sh_si (sh_si (sh_si (sh_si (sh_si (F.1 118 (100, 40) rfl rfl))))))))) rfl (jinb_of (by decide)) (by decide) ?_
  refine x_iinc (x := 8) (v := 9) (ls' := [(2, .int 9), (0, .ref 107), (1, .int a2)]) rfl rfl (by decide) rfl rfl ?_
  refine x_goto (tgt := 2) rfl rfl ?_
  refine x_iloadn (x := 9) rfl rfl ?_
  refine x_bipush (v := 40) rfl kb_40 ?_
  refine x_icge (tgt := 21) rfl rfl (br_f (by decide) ?_)
  refine x_aloadn (x := 107) rfl rfl ?_
  refine x_getR (b := 118) 4 14 rfl f_4_47 rfl (congrArg Prod.fst (sh_si (sh_si (sh_si (sh_si (sh_si (sh_si (sh_si (sh_si (sh_si (F.1 107 (4, 18) rfl rfl))))))))))) (rv_si (rv_si (rv_si (rv_si (rv_si (rv_si (rv_si (rv_si (rv_si (F.2.1 13710 118 rfl rfl)))))))))) ?_
  refine x_iloadn (x := 9) rfl rfl ?_
  refine x_iconst (v := 0) rfl ki_0 ?_
  refine y_iast (N := 40) 9 rfl (sh_si (sh_si (sh_si (sh_si (sh_si (sh_si (sh_si (sh_si (sh_si (F.1 118 (100, 40) rfl rfl)))))))))) rfl (jinb_of (by decide)) (by decide) ?_
  refine x_iinc (x := 9) (v := 10) (ls' := [(2, .int 10), (0, .ref 107), (1, .int a2)]) rfl rfl (by decide) rfl rfl ?_
  refine x_goto (tgt := 2) rfl rfl ?_
  refine x_iloadn (x := 10) rfl rfl ?_
  refine x_bipush (v := 40) rfl kb_40 ?_
  refine x_icge (tgt := 21) rfl rfl (br_f (by decide) ?_)
  refine x_aloadn (x := 107) rfl rfl ?_
  refine x_getR (b := 118) 4 14 rfl f_4_47 rfl (congrArg Prod.fst (sh_si (sh_si (sh_si (sh_si (sh_si (sh_si (sh_si (sh_si (sh_si (sh_si (F.1 107 (4, 18) rfl rfl)))))))))))) (rv_si (rv_si (rv_si (rv_si (rv_si (rv_si (rv_si (rv_si (rv_si (rv_si (F.2.1 13710 118 rfl rfl))))))))))) ?_
  refine x_iloadn (x := 10) rfl rfl ?_
  refine x_iconst (v := 0) rfl ki_0 ?_
  refine y_iast (N := 40) 10 rfl (sh_si (sh_si (sh_si (sh_si (sh_si (sh_si (sh_si (sh_si (sh_si (sh_si (F.1 118 (100, 40) rfl rfl))))))))))) rfl (jinb_of (by decide)) (by decide) ?_
  refine x_iinc (x := 10) (v := 11) (ls' := [(2, .int 11), (0, .ref 107), (1, .int a2)]) rfl rfl (by decide) rfl rfl ?_
  refine x_goto (tgt := 2) rfl rfl ?_
  refine x_iloadn (x := 11) rfl rfl ?_
  refine x_bipush (v := 40) rfl kb_40 ?_
  refine x_icge (tgt := 21) rfl rfl (br_f (by decide) ?_)
  refine x_aloadn (x := 107) rfl rfl ?_
  refine x_getR (b := 118) 4 14 rfl f_4_47 rfl (congrArg Prod.fst (sh_si (sh_si (sh_si (sh_si (sh_si (sh_si (sh_si (sh_si (sh_si (sh_si (sh_si (F.1 107 (4, 18) rfl rfl))))))))))))) (rv_si (rv_si (rv_si (rv_si (rv_si (rv_si (rv_si (rv_si (rv_si (rv_si (rv_si (F.2.1 13710 118 rfl rfl)))))))))))) ?_
  refine x_iloadn (x := 11) rfl rfl ?_
  refine x_iconst (v := 0) rfl ki_0 ?_
  refine y_iast (N := 40) 11 rfl (sh_si (sh_si (sh_si (sh_si (sh_si (sh_si (sh_si (sh_si (sh_si (sh_si (sh_si (F.1 118 (100, 40) rfl rfl)))))))))))) rfl (jinb_of (by decide)) (by decide) ?_
  refine x_iinc (x := 11) (v := 12) (ls' := [(2, .int 12), (0, .ref 107), (1, .int a2)]) rfl rfl (by decide) rfl rfl ?_
  refine x_goto (tgt := 2) rfl rfl ?_
  refine x_iloadn (x := 12) rfl rfl ?_
  refine x_bipush (v := 40) rfl kb_40 ?_
  refine x_icge (tgt := 21) rfl rfl (br_f (by decide) ?_)
  refine x_aloadn (x := 107) rfl rfl ?_
  refine x_getR (b := 118) 4 14 rfl f_4_47 rfl (congrArg Prod.fst (sh_si (sh_si (sh_si (sh_si (sh_si (sh_si (sh_si (sh_si (sh_si (sh_si (sh_si (sh_si (F.1 107 (4, 18) rfl rfl)))))))))))))) (rv_si (rv_si (rv_si (rv_si (rv_si (rv_si (rv_si (rv_si (rv_si (rv_si (rv_si (rv_si (F.2.1 13710 118 rfl rfl))))))))))))) ?_
  refine x_iloadn (x := 12) rfl rfl ?_
  refine x_iconst (v := 0) rfl ki_0 ?_
  refine y_iast (N := 40) 12 rfl (sh_si (sh_si (sh_si (sh_si (sh_si (sh_si (sh_si (sh_si (sh_si (sh_si (sh_si (sh_si (F.1 118 (100, 40) rfl rfl))))))))))))) rfl (jinb_of (by decide)) (by decide) ?_
  refine x_iinc (x := 12) (v := 13) (ls' := [(2, .int 13), (0, .ref 107), (1, .int a2)]) rfl rfl (by decide) rfl rfl ?_
  refine x_goto (tgt := 2) rfl rfl ?_
  refine x_iloadn (x := 13) rfl rfl ?_
  refine x_bipush (v := 40) rfl kb_40 ?_
  refine x_icge (tgt := 21) rfl rfl (br_f (by decide) ?_)
  refine x_aloadn (x := 107) rfl rfl ?_
  refine x_getR (b := 118) 4 14 rfl f_4_47 rfl (congrArg Prod.fst (sh_si (sh_si (sh_si (sh_si (sh_si (sh_si (sh_si (sh_si (sh_si (sh_si (sh_si (sh_si (sh_si (F.1 107 (4, 18) rfl rfl))))))))))))))) (rv_si (rv_si (rv_si (rv_si (rv_si (rv_si (rv_si (rv_si (rv_si (rv_si (rv_si (rv_si (rv_si (F.2.1 13710 118 rfl rfl)))))))))))))) ?_
  refine x_iloadn (x := 13) rfl rfl ?_
  refine x_iconst (v := 0) rfl ki_0 ?_
  refine y_iast (N := 40) 13 rfl (sh_si (sh_si (sh_si (sh_si (sh_si (sh_si (sh_si (sh_si (sh_si (sh_si (sh_si (sh_si (sh_si (F.1 118 (100, 40) rfl rfl)))))))))))))) rfl (jinb_of (by decide)) (by decide) ?_
  refine x_iinc (x := 13) (v := 14) (ls' := [(2, .int 14), (0, .ref 107), (1, .int a2)]) rfl rfl (by decide) rfl rfl ?_
  refine x_goto (tgt := 2) rfl rfl ?_
  refine x_iloadn (x := 14) rfl rfl ?_
  refine x_bipush (v := 40) rfl kb_40 ?_
  refine x_icge (tgt := 21) rfl rfl (br_f (by decide) ?_)
  refine x_aloadn (x := 107) rfl rfl ?_
  refine x_getR (b := 118) 4 14 rfl f_4_47 rfl (congrArg Prod.fst (sh_si (sh_si (sh_si (sh_si (sh_si (sh_si (sh_si (sh_si (sh_si (sh_si (sh_si (sh_si (sh_si (sh_si (F.1 107 (4, 18) rfl rfl)))))))))))))))) (rv_si (rv_si (rv_si (rv_si (rv_si (rv_si (rv_si (rv_si (rv_si (rv_si (rv_si (rv_si (rv_si (rv_si (F.2.1 13710 118 rfl rfl))))))))))))))) ?_
  refine x_iloadn (x := 14) rfl rfl ?_
  refine x_iconst (v := 0) rfl ki_0 ?_
  refine y_iast (N := 40) 14 rfl (sh_si (sh_si (sh_si (sh_si (sh_si (sh_si (sh_si (sh_si (sh_si (sh_si (sh_si (sh_si (sh_si (sh_si (F.1 118 (100, 40) rfl rfl))))))))))))))) rfl (jinb_of (by decide)) (by decide) ?_
  refine x_iinc (x := 14) (v := 15) (ls' := [(2, .int 15), (0, .ref 107), (1, .int a2)]) rfl rfl (by decide) rfl rfl ?_
  refine x_goto (tgt := 2) rfl rfl ?_
  refine x_iloadn (x := 15) rfl rfl ?_
  refine x_bipush (v := 40) rfl kb_40 ?_
  refine x_icge (tgt := 21) rfl rfl (br_f (by decide) ?_)
  refine x_aloadn (x := 107) rfl rfl ?_
  refine x_getR (b := 118) 4 14 rfl f_4_47 rfl (congrArg Prod.fst (sh_si (sh_si (sh_si (sh_si (sh_si (sh_si (sh_si (sh_si (sh_si (sh_si (sh_si (sh_si (sh_si (sh_si (sh_si (F.1 107 (4, 18) rfl rfl))))))))))))))))) (rv_si (rv_si (rv_si (rv_si (rv_si (rv_si (rv_si (rv_si (rv_si (rv_si (rv_si (rv_si (rv_si (rv_si (rv_si (F.2.1 13710 118 rfl rfl)))))))))))))))) ?_
  refine x_iloadn (x := 15) rfl rfl ?_
  refine x_iconst (v := 0) rfl ki_0 ?_
  refine y_iast (N := 40) 15 rfl (sh_si (sh_si (sh_si (sh_si (sh_si (sh_si (sh_si (sh_si (sh_si (sh_si (sh_si (sh_si (sh_si (sh_si (sh_si (F.1 118 (100, 40) rfl rfl)))))))))))))))) rfl (jinb_of (by decide)) (by decide) ?_
  refine x_iinc (x := 15) (v := 16) (ls' := [(2, .int 16), (0, .ref 107), (1, .int a2)]) rfl rfl (by decide) rfl rfl ?_
  refine x_goto (tgt := 2) rfl rfl ?_
  refine x_iloadn (x := 16) rfl rfl ?_
  refine x_bipush (v := 40) rfl kb_40 ?_
  refine x_icge (tgt := 21) rfl rfl (br_f (by decide) ?_)
  refine x_aloadn (x := 107) rfl rfl ?_
  refine x_getR (b := 118) 4 14 rfl f_4_47 rfl (congrArg Prod.fst (sh_si (sh_si (sh_si (sh_si (sh_si (sh_si (sh_si (sh_si (sh_si (sh_si (sh_si (sh_si (sh_si (sh_si (sh_si (sh_si (F.1 107 (4, 18) rfl rfl)))))))))))))))))) (rv_si (rv_si (rv_si (rv_si (rv_si (rv_si (rv_si (rv_si (rv_si (rv_si (rv_si (rv_si (rv_si (rv_si (rv_si (rv_si (F.2.1 13710 118 rfl rfl))))))))))))))))) ?_
  refine x_iloadn (x := 16) rfl rfl ?_
  refine x_iconst (v := 0) rfl ki_0 ?_
  refine y_iast (N := 40) 16 rfl (sh_si (sh_si (sh_si (sh_si (sh_si (sh_si (sh_si (sh_si (sh_si (sh_si (sh_si (sh_si (sh_si (sh_si (sh_si (sh_si (F.1 118 (100, 40) rfl rfl))))))))))))))))) rfl (jinb_of (by decide)) (by decide) ?_
  refine x_iinc (x := 16) (v := 17) (ls' := [(2, .int 17), (0, .ref 107), (1, .int a2)]) rfl rfl (by decide) rfl rfl ?_
  refine x_goto (tgt := 2) rfl rfl ?_
  refine x_iloadn (x := 17) rfl rfl ?_
  refine x_bipush (v := 40) rfl kb_40 ?_
  refine x_icge (tgt := 21) rfl rfl (br_f (by decide) ?_)
  refine x_aloadn (x := 107) rfl rfl ?_
  refine x_getR (b := 118) 4 14 rfl f_4_47 rfl (congrArg Prod.fst (sh_si (sh_si (sh_si (sh_si (sh_si (sh_si (sh_si (sh_si (sh_si (sh_si (sh_si (sh_si (sh_si (sh_si (sh_si (sh_si (sh_si (F.1 107 (4, 18) rfl rfl))))))))))))))))))) (rv_si (rv_si (rv_si (rv_si (rv_si (rv_si (rv_si (rv_si (rv_si (rv_si (rv_si (rv_si (rv_si (rv_si (rv_si (rv_si (rv_si (F.2.1 13710 118 rfl rfl)))))))))))))))))) ?_
  refine x_iloadn (x := 17) rfl rfl ?_
  refine x_iconst (v := 0) rfl ki_0 ?_
  refine y_iast (N := 40) 17 rfl (sh_si (sh_si (sh_si (sh_si (sh_si (sh_si (sh_si (sh_si (sh_si (sh_si (sh_si (sh_si (sh_si (sh_si (sh_si (sh_si (sh_si (F.1 118 (100, 40) rfl rfl)))))))))))))))))) rfl (jinb_of (by decide)) (by decide) ?_
  refine x_iinc (x := 17) (v := 18) (ls' := [(2, .int 18), (0, .ref 107), (1, .int a2)]) rfl rfl (by decide) rfl rfl ?_
  refine x_goto (tgt := 2) rfl rfl ?_
  refine x_iloadn (x := 18) rfl rfl ?_
  refine x_bipush (v := 40) rfl kb_40 ?_
  refine x_icge (tgt := 21) rfl rfl (br_f (by decide) ?_)
  refine x_aloadn (x := 107) rfl rfl ?_
  refine x_getR (b := 118) 4 14 rfl f_4_47 rfl (congrArg Prod.fst (sh_si (sh_si (sh_si (sh_si (sh_si (sh_si (sh_si (sh_si (sh_si (sh_si (sh_si (sh_si (sh_si (sh_si (sh_si (sh_si (sh_si (sh_si (F.1 107 (4, 18) rfl rfl)))))))))))))))))))) (rv_si (rv_si (rv_si (rv_si (rv_si (rv_si (rv_si (rv_si (rv_si (rv_si (rv_si (rv_si (rv_si (rv_si (rv_si (rv_si (rv_si (rv_si (F.2.1 13710 118 rfl rfl))))))))))))))))))) ?_
  refine x_iloadn (x := 18) rfl rfl ?_
  refine x_iconst (v := 0) rfl ki_0 ?_
  refine y_iast (N := 40) 18 rfl (sh_si (sh_si (sh_si (sh_si (sh_si (sh_si (sh_si (sh_si (sh_si (sh_si (sh_si (sh_si (sh_si (sh_si (sh_si (sh_si (sh_si (sh_si (F.1 118 (100, 40) rfl rfl))))))))))))))))))) rfl (jinb_of (by decide)) (by decide) ?_
  refine x_iinc (x := 18) (v := 19) (ls' := [(2, .int 19), (0, .ref 107), (1, .int a2)]) rfl rfl (by decide) rfl rfl ?_
  refine x_goto (tgt := 2) rfl rfl ?_
  refine x_iloadn (x := 19) rfl rfl ?_
  refine x_bipush (v := 40) rfl kb_40 ?_
  refine x_icge (tgt := 21) rfl rfl (br_f (by decide) ?_)
  refine x_aloadn (x := 107) rfl rfl ?_
  refine x_getR (b := 118) 4 14 rfl f_4_47 rfl (congrArg Prod.fst (sh_si (sh_si (sh_si (sh_si (sh_si (sh_si (sh_si (sh_si (sh_si (sh_si (sh_si (sh_si (sh_si (sh_si (sh_si (sh_si (sh_si (sh_si (sh_si (F.1 107 (4, 18) rfl rfl))))))))))))))))))))) (rv_si (rv_si (rv_si (rv_si (rv_si (rv_si (rv_si (rv_si (rv_si (rv_si (rv_si (rv_si (rv_si (rv_si (rv_si (rv_si (rv_si (rv_si (rv_si (F.2.1 13710 118 rfl rfl)))))))))))))))))))) ?_
  refine x_iloadn (x := 19) rfl rfl ?_
  refine x_iconst (v := 0) rfl ki_0 ?_
  refine y_iast (N := 40) 19 rfl (sh_si (sh_si (sh_si (sh_si (sh_si (sh_si (sh_si (sh_si (sh_si (sh_si (sh_si (sh_si (sh_si (sh_si (sh_si (sh_si (sh_si (sh_si (sh_si (F.1 118 (100, 40) rfl rfl)))))))))))))))))))) rfl (jinb_of (by decide)) (by decide) ?_
  refine x_iinc (x := 19) (v := 20) (ls' := [(2, .int 20), (0, .ref 107), (1, .int a2)]) rfl rfl (by decide) rfl rfl ?_
  refine x_goto (tgt := 2) rfl rfl ?_
  refine x_iloadn (x := 20) rfl rfl ?_
  refine x_bipush (v := 40) rfl kb_40 ?_
  refine x_icge (tgt := 21) rfl rfl (br_f (by decide) ?_)
  refine x_aloadn (x := 107) rfl rfl ?_
  refine x_getR (b := 118) 4 14 rfl f_4_47 rfl (congrArg Prod.fst (sh_si (sh_si (sh_si (sh_si (sh_si (sh_si (sh_si (sh_si (sh_si (sh_si (sh_si (sh_si (sh_si (sh_si (sh_si (sh_si (sh_si (sh_si (sh_si (sh_si (F.1 107 (4, 18) rfl rfl)))))))))))))))))))))) (rv_si (rv_si (rv_si (rv_si (rv_si (rv_si (rv_si (rv_si (rv_si (rv_si (rv_si (rv_si (rv_si (rv_si (rv_si (rv_si (rv_si (rv_si (rv_si (rv_si (F.2.1 13710 118 rfl rfl))))))))))))))))))))) ?_
  refine x_iloadn (x := 20) rfl rfl ?_
  refine x_iconst (v := 0) rfl ki_0 ?_
  refine y_iast (N := 40) 20 rfl (sh_si (sh_si (sh_si (sh_si (sh_si (sh_si (sh_si (sh_si (sh_si (sh_si (sh_si (sh_si (sh_si (sh_si (sh_si (sh_si (sh_si (sh_si (sh_si (sh_si (F.1 118 (100, 40) rfl rfl))))))))))))))))))))) rfl (jinb_of (by decide)) (by decide) ?_
  refine x_iinc (x := 20) (v := 21) (ls' := [(2, .int 21), (0, .ref 107), (1, .int a2)]) rfl rfl (by decide) rfl rfl ?_
  refine x_goto (tgt := 2) rfl rfl ?_
  refine x_iloadn (x := 21) rfl rfl ?_
  refine x_bipush (v := 40) rfl kb_40 ?_
  refine x_icge (tgt := 21) rfl rfl (br_f (by decide) ?_)
  refine x_aloadn (x := 107) rfl rfl ?_
  refine x_getR (b := 118) 4 14 rfl f_4_47 rfl (congrArg Prod.fst (sh_si (sh_si (sh_si (sh_si (sh_si (sh_si (sh_si (sh_si (sh_si (sh_si (sh_si (sh_si (sh_si (sh_si (sh_si (sh_si (sh_si (sh_si (sh_si (sh_si (sh_si (F.1 107 (4, 18) rfl rfl))))))))))))))))))))))) (rv_si (rv_si (rv_si (rv_si (rv_si (rv_si (rv_si (rv_si (rv_si (rv_si (rv_si (rv_si (rv_si (rv_si (rv_si (rv_si (rv_si (rv_si (rv_si (rv_si (rv_si (F.2.1 13710 118 rfl rfl)))))))))))))))))))))) ?_
  refine x_iloadn (x := 21) rfl rfl ?_
  refine x_iconst (v := 0) rfl ki_0 ?_
  refine y_iast (N := 40) 21 rfl (sh_si (sh_si (sh_si (sh_si (sh_si (sh_si (sh_si (sh_si (sh_si (sh_si (sh_si (sh_si (sh_si (sh_si (sh_si (sh_si (sh_si (sh_si (sh_si (sh_si (sh_si (F.1 118 (100, 40) rfl rfl)))))))))))))))))))))) rfl (jinb_of (by decide)) (by decide) ?_
  refine x_iinc (x := 21) (v := 22) (ls' := [(2, .int 22), (0, .ref 107), (1, .int a2)]) rfl rfl (by decide) rfl rfl ?_
  refine x_goto (tgt := 2) rfl rfl ?_
  refine x_iloadn (x := 22) rfl rfl ?_
  refine x_bipush (v := 40) rfl kb_40 ?_
  refine x_icge (tgt := 21) rfl rfl (br_f (by decide) ?_)
  refine x_aloadn (x := 107) rfl rfl ?_
  refine x_getR (b := 118) 4 14 rfl f_4_47 rfl (congrArg Prod.fst (sh_si (sh_si (sh_si (sh_si (sh_si (sh_si (sh_si (sh_si (sh_si (sh_si (sh_si (sh_si (sh_si (sh_si (sh_si (sh_si (sh_si (sh_si (sh_si (sh_si (sh_si (sh_si (F.1 107 (4, 18) rfl rfl)))))))))))))))))))))))) (rv_si (rv_si (rv_si (rv_si (rv_si (rv_si (rv_si (rv_si (rv_si (rv_si (rv_si (rv_si (rv_si (rv_si (rv_si (rv_si (rv_si (rv_si (rv_si (rv_si (rv_si (rv_si (F.2.1 13710 118 rfl rfl))))))))))))))))))))))) ?_
  refine x_iloadn (x := 22) rfl rfl ?_
  refine x_iconst (v := 0) rfl ki_0 ?_
  refine y_iast (N := 40) 22 rfl (sh_si (sh_si (sh_si (sh_si (sh_si (sh_si (sh_si (sh_si (sh_si (sh_si (sh_si (sh_si (sh_si (sh_si (sh_si (sh_si (sh_si (sh_si (sh_si (sh_si (sh_si (sh_si (F.1 118 (100, 40) rfl rfl))))))))))))))))))))))) rfl (jinb_of (by decide)) (by decide) ?_
  refine x_iinc (x := 22) (v := 23) (ls' := [(2, .int 23), (0, .ref 107), (1, .int a2)]) rfl rfl (by decide) rfl rfl ?_
  refine x_goto (tgt := 2) rfl rfl ?_
  refine x_iloadn (x := 23) rfl rfl ?_
  refine x_bipush (v := 40) rfl kb_40 ?_
  refine x_icge (tgt := 21) rfl rfl (br_f (by decide) ?_)
  refine x_aloadn (x := 107) rfl rfl ?_
  refine x_getR (b := 118) 4 14 rfl f_4_47 rfl (congrArg Prod.fst (sh_si (sh_si (sh_si (sh_si (sh_si (sh_si (sh_si (sh_si (sh_si (sh_si (sh_si (sh_si (sh_si (sh_si (sh_si (sh_si (sh_si (sh_si (sh_si (sh_si (sh_si (sh_si (sh_si (F.1 107 (4, 18) rfl rfl))))))))))))))))))))))))) (rv_si (rv_si (rv_si (rv_si (rv_si (rv_si (rv_si (rv_si (rv_si (rv_si (rv_si (rv_si (rv_si (rv_si (rv_si (rv_si (rv_si (rv_si (rv_si (rv_si (rv_si (rv_si (rv_si (F.2.1 13710 118 rfl rfl)))))))))))))))))))))))) ?_
  refine x_iloadn (x := 23) rfl rfl ?_
  refine x_iconst (v := 0) rfl ki_0 ?_
  refine y_iast (N := 40) 23 rfl (sh_si (sh_si (sh_si (sh_si (sh_si (sh_si (sh_si (sh_si (sh_si (sh_si (sh_si (sh_si (sh_si (sh_si (sh_si (sh_si (sh_si (sh_si (sh_si (sh_si (sh_si (sh_si (sh_si (F.1 118 (100, 40) rfl rfl)))))))))))))))))))))))) rfl (jinb_of (by decide)) (by decide) ?_
  refine x_iinc (x := 23) (v := 24) (ls' := [(2, .int 24), (0, .ref 107), (1, .int a2)]) rfl rfl (by decide) rfl rfl ?_
  refine x_goto (tgt := 2) rfl rfl ?_
  refine x_iloadn (x := 24) rfl rfl ?_
  refine x_bipush (v := 40) rfl kb_40 ?_
  refine x_icge (tgt := 21) rfl rfl (br_f (by decide) ?_)
  refine x_aloadn (x := 107) rfl rfl ?_
  refine x_getR (b := 118) 4 14 rfl f_4_47 rfl (congrArg Prod.fst (sh_si (sh_si (sh_si (sh_si (sh_si (sh_si (sh_si (sh_si (sh_si (sh_si (sh_si (sh_si (sh_si (sh_si (sh_si (sh_si (sh_si (sh_si (sh_si (sh_si (sh_si (sh_si (sh_si (sh_si (F.1 107 (4, 18) rfl rfl)))))))))))))))))))))))))) (rv_si (rv_si (rv_si (rv_si (rv_si (rv_si (rv_si (rv_si (rv_si (rv_si (rv_si (rv_si (rv_si (rv_si (rv_si (rv_si (rv_si (rv_si (rv_si (rv_si (rv_si (rv_si (rv_si (rv_si (F.2.1 13710 118 rfl rfl))))))))))))))))))))))))) ?_
  refine x_iloadn (x := 24) rfl rfl ?_
  refine x_iconst (v := 0) rfl ki_0 ?_
  refine y_iast (N := 40) 24 rfl (sh_si (sh_si (sh_si (sh_si (sh_si (sh_si (sh_si (sh_si (sh_si (sh_si (sh_si (sh_si (sh_si (sh_si (sh_si (sh_si (sh_si (sh_si (sh_si (sh_si (sh_si (sh_si (sh_si (sh_si (F.1 118 (100, 40) rfl rfl))))))))))))))))))))))))) rfl (jinb_of (by decide)) (by decide) ?_
  refine x_iinc (x := 24) (v := 25) (ls' := [(2, .int 25), (0, .ref 107), (1, .int a2)]) rfl rfl (by decide) rfl rfl ?_
  refine x_goto (tgt := 2) rfl rfl ?_
  refine x_iloadn (x := 25) rfl rfl ?_
  refine x_bipush (v := 40) rfl kb_40 ?_
  refine x_icge (tgt := 21) rfl rfl (br_f (by decide) ?_)
  refine x_aloadn (x := 107) rfl rfl ?_
  refine x_getR (b := 118) 4 14 rfl f_4_47 rfl (congrArg Prod.fst (sh_si (sh_si (sh_si (sh_si (sh_si (sh_si (sh_si (sh_si (sh_si (sh_si (sh_si (sh_si (sh_si (sh_si (sh_si (sh_si (sh_si (sh_si (sh_si (sh_si (sh_si (sh_si (sh_si (sh_si (sh_si (F.1 107 (4, 18) rfl rfl))))))))))))))))))))))))))) (rv_si (rv_si (rv_si (rv_si (rv_si (rv_si (rv_si (rv_si (rv_si (rv_si (rv_si (rv_si (rv_si (rv_si (rv_si (rv_si (rv_si (rv_si (rv_si (rv_si (rv_si (rv_si (rv_si (rv_si (rv_si (F.2.1 13710 118 rfl rfl)))))))))))))))))))))))))) ?_
  refine x_iloadn (x := 25) rfl rfl ?_
  refine x_iconst (v := 0) rfl ki_0 ?_
  refine y_iast (N := 40) 25 rfl (sh_si (sh_si (sh_si (sh_si (sh_si (sh_si (sh_si (sh_si (sh_si (sh_si (sh_si (sh_si (sh_si (sh_si (sh_si (sh_si (sh_si (sh_si (sh_si (sh_si (sh_si (sh_si (sh_si (sh_si (sh_si (F.1 118 (100, 40) rfl rfl)))))))))))))))))))))))))) rfl (jinb_of (by decide)) (by decide) ?_
  refine x_iinc (x := 25) (v := 26) (ls' := [(2, .int 26), (0, .ref 107), (1, .int a2)]) rfl rfl (by decide) rfl rfl ?_
  refine x_goto (tgt := 2) rfl rfl ?_
  refine x_iloadn (x := 26) rfl rfl ?_
  refine x_bipush (v := 40) rfl kb_40 ?_
  refine x_icge (tgt := 21) rfl rfl (br_f (by decide) ?_)
  refine x_aloadn (x := 107) rfl rfl ?_
  refine x_getR (b := 118) 4 14 rfl f_4_47 rfl (congrArg Prod.fst (sh_si (sh_si (sh_si (sh_si (sh_si (sh_si (sh_si (sh_si (sh_si (sh_si (sh_si (sh_si (sh_si (sh_si (sh_si (sh_si (sh_si (sh_si (sh_si (sh_si (sh_si (sh_si (sh_si (sh_si (sh_si (sh_si (F.1 107 (4, 18) rfl rfl)))))))))))))))))))))))))))) (rv_si (rv_si (rv_si (rv_si (rv_si (rv_si (rv_si (rv_si (rv_si (rv_si (rv_si (rv_si (rv_si (rv_si (rv_si (rv_si (rv_si (rv_si (rv_si (rv_si (rv_si (rv_si (rv_si (rv_si (rv_si (rv_si (F.2.1 13710 118 rfl rfl))))))))))))))))))))))))))) ?_
  refine x_iloadn (x := 26) rfl rfl ?_
  refine x_iconst (v := 0) rfl ki_0 ?_
  refine y_iast (N := 40) 26 rfl (sh_si (sh_si (sh_si (sh_si (sh_si (sh_si (sh_si (sh_si (sh_si (sh_si (sh_si (sh_si (sh_si (sh_si (sh_si (sh_si (sh_si (sh_si (sh_si (sh_si (sh_si (sh_si (sh_si (sh_si (sh_si (sh_si (F.1 118 (100, 40) rfl rfl))))))))))))))))))))))))))) rfl (jinb_of (by decide)) (by decide) ?_
  refine x_iinc (x := 26) (v := 27) (ls' := [(2, .int 27), (0, .ref 107), (1, .int a2)]) rfl rfl (by decide) rfl rfl ?_
  refine x_goto (tgt := 2) rfl rfl ?_
  refine x_iloadn (x := 27) rfl rfl ?_
  refine x_bipush (v := 40) rfl kb_40 ?_
  refine x_icge (tgt := 21) rfl rfl (br_f (by decide) ?_)
  refine x_aloadn (x := 107) rfl rfl ?_
  refine x_getR (b := 118) 4 14 rfl f_4_47 rfl (congrArg Prod.fst (sh_si (sh_si (sh_si (sh_si (sh_si (sh_si (sh_si (sh_si (sh_si (sh_si (sh_si (sh_si (sh_si (sh_si (sh_si (sh_si (sh_si (sh_si (sh_si (sh_si (sh_si (sh_si (sh_si (sh_si (sh_si (sh_si (sh_si (F.1 107 (4, 18) rfl rfl))))))))))))))))))))))))))))) (rv_si (rv_si (rv_si (rv_si (rv_si (rv_si (rv_si (rv_si (rv_si (rv_si (rv_si (rv_si (rv_si (rv_si (rv_si (rv_si (rv_si (rv_si (rv_si (rv_si (rv_si (rv_si (rv_si (rv_si (rv_si (rv_si (rv_si (F.2.1 13710 118 rfl rfl)))))))))))))))))))))))))))) ?_
  refine x_iloadn (x := 27) rfl rfl ?_
  refine x_iconst (v := 0) rfl ki_0 ?_
  refine y_iast (N := 40) 27 rfl (sh_si (sh_si (sh_si (sh_si (sh_si (sh_si (sh_si (sh_si (sh_si (sh_si (sh_si (sh_si (sh_si (sh_si (sh_si (sh_si (sh_si (sh_si (sh_si (sh_si (sh_si (sh_si (sh_si (sh_si (sh_si (sh_si (sh_si (F.1 118 (100, 40) rfl rfl)))))))))))))))))))))))))))) rfl (jinb_of (by decide)) (by decide) ?_
  refine x_iinc (x := 27) (v := 28) (ls' := [(2, .int 28), (0, .ref 107), (1, .int a2)]) rfl rfl (by decide) rfl rfl ?_
  refine x_goto (tgt := 2) rfl rfl ?_
  refine x_iloadn (x := 28) rfl rfl ?_
  refine x_bipush (v := 40) rfl kb_40 ?_
  refine x_icge (tgt := 21) rfl rfl (br_f (by decide) ?_)
  refine x_aloadn (x := 107) rfl rfl ?_
  refine x_getR (b := 118) 4 14 rfl f_4_47 rfl (congrArg Prod.fst (sh_si (sh_si (sh_si (sh_si (sh_si (sh_si (sh_si (sh_si (sh_si (sh_si (sh_si (sh_si (sh_si (sh_si (sh_si (sh_si (sh_si (sh_si (sh_si (sh_si (sh_si (sh_si (sh_si (sh_si (sh_si (sh_si (sh_si (sh_si (F.1 107 (4, 18) rfl rfl)))))))))))))))))))))))))))))) (rv_si (rv_si (rv_si (rv_si (rv_si (rv_si (rv_si (rv_si (rv_si (rv_si (rv_si (rv_si (rv_si (rv_si (rv_si (rv_si (rv_si (rv_si (rv_si (rv_si (rv_si (rv_si (rv_si (rv_si (rv_si (rv_si (rv_si (rv_si (F.2.1 13710 118 rfl rfl))))))))))))))))))))))))))))) ?_
  refine x_iloadn (x := 28) rfl rfl ?_
  refine x_iconst (v := 0) rfl ki_0 ?_
  refine y_iast (N := 40) 28 rfl (sh_si (sh_si (sh_si (sh_si (sh_si (sh_si (sh_si (sh_si (sh_si (sh_si (sh_si (sh_si (sh_si (sh_si (sh_si (sh_si (sh_si (sh_si (sh_si (sh_si (sh_si (sh_si (sh_si (sh_si (sh_si (sh_si (sh_si (sh_si (F.1 118 (100, 40) rfl rfl))))))))))))))))))))))))))))) rfl (jinb_of (by decide)) (by decide) ?_
  refine x_iinc (x := 28) (v := 29) (ls' := [(2, .int 29), (0, .ref 107), (1, .int a2)]) rfl rfl (by decide) rfl rfl ?_
  refine x_goto (tgt := 2) rfl rfl ?_
  refine x_iloadn (x := 29) rfl rfl ?_
  refine x_bipush (v := 40) rfl kb_40 ?_
  refine x_icge (tgt := 21) rfl rfl (br_f (by decide) ?_)
  refine x_aloadn (x := 107) rfl rfl ?_
  refine x_getR (b := 118) 4 14 rfl f_4_47 rfl (congrArg Prod.fst (sh_si (sh_si (sh_si (sh_si (sh_si (sh_si (sh_si (sh_si (sh_si (sh_si (sh_si (sh_si (sh_si (sh_si (sh_si (sh_si (sh_si (sh_si (sh_si (sh_si (sh_si (sh_si (sh_si (sh_si (sh_si (sh_si (sh_si (sh_si (sh_si (F.1 107 (4, 18) rfl rfl))))))))))))))))))))))))))))))) (rv_si (rv_si (rv_si (rv_si (rv_si (rv_si (rv_si (rv_si (rv_si (rv_si (rv_si (rv_si (rv_si (rv_si (rv_si (rv_si (rv_si (rv_si (rv_si (rv_si (rv_si (rv_si (rv_si (rv_si (rv_si (rv_si (rv_si (rv_si (rv_si (F.2.1 13710 118 rfl rfl)))))))))))))))))))))))))))))) ?_
  refine x_iloadn (x := 29) rfl rfl ?_
  refine x_iconst (v := 0) rfl ki_0 ?_
  refine y_iast (N := 40) 29 rfl (sh_si (sh_si (sh_si (sh_si (sh_si (sh_si (sh_si (sh_si (sh_si (sh_si (sh_si (sh_si (sh_si (sh_si (sh_si (sh_si (sh_si (sh_si (sh_si (sh_si (sh_si (sh_si (sh_si (sh_si (sh_si (sh_si (sh_si (sh_si (sh_si (F.1 118 (100, 40) rfl rfl)))))))))))))))))))))))))))))) rfl (jinb_of (by decide)) (by decide) ?_
  refine x_iinc (x := 29) (v := 30) (ls' := [(2, .int 30), (0, .ref 107), (1, .int a2)]) rfl rfl (by decide) rfl rfl ?_
  refine x_goto (tgt := 2) rfl rfl ?_
  refine x_iloadn (x := 30) rfl rfl ?_
  refine x_bipush (v := 40) rfl kb_40 ?_
  refine x_icge (tgt := 21) rfl rfl (br_f (by decide) ?_)
  refine x_aloadn (x := 107) rfl rfl ?_
  refine x_getR (b := 118) 4 14 rfl f_4_47 rfl (congrArg Prod.fst (sh_si (sh_si (sh_si (sh_si (sh_si (sh_si (sh_si (sh_si (sh_si (sh_si (sh_si (sh_si (sh_si (sh_si (sh_si (sh_si (sh_si (sh_si (sh_si (sh_si (sh_si (sh_si (sh_si (sh_si (sh_si (sh_si (sh_si (sh_si (sh_si (sh_si (F.1 107 (4, 18) rfl rfl)))))))))))))))))))))))))))))))) (rv_si (rv_si (rv_si (rv_si (rv_si (rv_si (rv_si (rv_si (rv_si (rv_si (rv_si (rv_si (rv_si (rv_si (rv_si (rv_si (rv_si (rv_si (rv_si (rv_si (rv_si (rv_si (rv_si (rv_si (rv_si (rv_si (rv_si (rv_si (rv_si (rv_si (F.2.1 13710 118 rfl rfl))))))))))))))))))))))))))))))) ?_
  refine x_iloadn (x := 30) rfl rfl ?_
  refine x_iconst (v := 0) rfl ki_0 ?_
  refine y_iast (N := 40) 30 rfl (sh_si (sh_si (sh_si (sh_si (sh_si (sh_si (sh_si (sh_si (sh_si (sh_si (sh_si (sh_si (sh_si (sh_si (sh_si (sh_si (sh_si (sh_si (sh_si (sh_si (sh_si (sh_si (sh_si (sh_si (sh_si (sh_si (sh_si (sh_si (sh_si (sh_si (F.1 118 (100, 40) rfl rfl))))))))))))))))))))))))))))))) rfl (jinb_of (by decide)) (by decide) ?_
  refine x_iinc (x := 30) (v := 31) (ls' := [(2, .int 31), (0, .ref 107), (1, .int a2)]) rfl rfl (by decide) rfl rfl ?_
  refine x_goto (tgt := 2) rfl rfl ?_
  refine x_iloadn (x := 31) rfl rfl ?_
  refine x_bipush (v := 40) rfl kb_40 ?_
  refine x_icge (tgt := 21) rfl rfl (br_f (by decide) ?_)
  refine x_aloadn (x := 107) rfl rfl ?_
  refine x_getR (b := 118) 4 14 rfl f_4_47 rfl (congrArg Prod.fst (sh_si (sh_si (sh_si (sh_si (sh_si (sh_si (sh_si (sh_si (sh_si (sh_si (sh_si (sh_si (sh_si (sh_si (sh_si (sh_si (sh_si (sh_si (sh_si (sh_si (sh_si (sh_si (sh_si (sh_si (sh_si (sh_si (sh_si (sh_si (sh_si (sh_si (sh_si (F.1 107 (4, 18) rfl rfl))))))))))))))))))))))))))))))))) (rv_si (rv_si (rv_si (rv_si (rv_si (rv_si (rv_si (rv_si (rv_si (rv_si (rv_si (rv_si (rv_si (rv_si (rv_si (rv_si (rv_si (rv_si (rv_si (rv_si (rv_si (rv_si (rv_si (rv_si (rv_si (rv_si (rv_si (rv_si (rv_si (rv_si (rv_si (F.2.1 13710 118 rfl rfl)))))))))))))))))))))))))))))))) ?_
  refine x_iloadn (x := 31) rfl rfl ?_
  refine x_iconst (v := 0) rfl ki_0 ?_
  refine y_iast (N := 40) 31 rfl (sh_si (sh_si (sh_si (sh_si (sh_si (sh_si (sh_si (sh_si (sh_si (sh_si (sh_si (sh_si (sh_si (sh_si (sh_si (sh_si (sh_si (sh_si (sh_si (sh_si (sh_si (sh_si (sh_si (sh_si (sh_si (sh_si (sh_si (sh_si (sh_si (sh_si (sh_si (F.1 118 (100, 40) rfl rfl)))))))))))))))))))))))))))))))) rfl (jinb_of (by decide)) (by decide) ?_
  refine x_iinc (x := 31) (v := 32) (ls' := [(2, .int 32), (0, .ref 107), (1, .int a2)]) rfl rfl (by decide) rfl rfl ?_
  refine x_goto (tgt := 2) rfl rfl ?_
  refine x_iloadn (x := 32) rfl rfl ?_
  refine x_bipush (v := 40) rfl kb_40 ?_
  refine x_icge (tgt := 21) rfl rfl (br_f (by decide) ?_)
  refine x_aloadn (x := 107) rfl rfl ?_
  refine x_getR (b := 118) 4 14 rfl f_4_47 rfl (congrArg Prod.fst (sh_si (sh_si (sh_si (sh_si (sh_si (sh_si (sh_si (sh_si (sh_si (sh_si (sh_si (sh_si (sh_si (sh_si (sh_si (sh_si (sh_si (sh_si (sh_si (sh_si (sh_si (sh_si (sh_si (sh_si (sh_si (sh_si (sh_si (sh_si (sh_si (sh_si (sh_si (sh_si (F.1 107 (4, 18) rfl rfl)))))))))))))))))))))))))))))))))) (rv_si (rv_si (rv_si (rv_si (rv_si (rv_si (rv_si (rv_si (rv_si (rv_si (rv_si (rv_si (rv_si (rv_si (rv_si (rv_si (rv_si (rv_si (rv_si (rv_si (rv_si (rv_si (rv_si (rv_si (rv_si (rv_si (rv_si (rv_si (rv_si (rv_si (rv_si (rv_si (F.2.1 13710 118 rfl rfl))))))))))))))))))))))))))))))))) ?_
  refine x_iloadn (x := 32) rfl rfl ?_
  refine x_iconst (v := 0) rfl ki_0 ?_
  refine y_iast (N := 40) 32 rfl (sh_si (sh_si (sh_si (sh_si (sh_si (sh_si (sh_si (sh_si (sh_si (sh_si (sh_si (sh_si (sh_si (sh_si (sh_si (sh_si (sh_si (sh_si (sh_si (sh_si (sh_si (sh_si (sh_si (sh_si (sh_si (sh_si (sh_si (sh_si (sh_si (sh_si (sh_si (sh_si (F.1 118 (100, 40) rfl rfl))))))))))))))))))))))))))))))))) rfl (jinb_of (by decide)) (by decide) ?_
  refine x_iinc (x := 32) (v := 33) (ls' := [(2, .int 33), (0, .ref 107), (1, .int a2)]) rfl rfl (by decide) rfl rfl ?_
  refine x_goto (tgt := 2) rfl rfl ?_
  refine x_iloadn (x := 33) rfl rfl ?_
  refine x_bipush (v := 40) rfl kb_40 ?_
  refine x_icge (tgt := 21) rfl rfl (br_f (by decide) ?_)
  refine x_aloadn (x := 107) rfl rfl ?_
  refine x_getR (b := 118) 4 14 rfl f_4_47 rfl (congrArg Prod.fst (sh_si (sh_si (sh_si (sh_si (sh_si (sh_si (sh_si (sh_si (sh_si (sh_si (sh_si (sh_si (sh_si (sh_si (sh_si (sh_si (sh_si (sh_si (sh_si (sh_si (sh_si (sh_si (sh_si (sh_si (sh_si (sh_si (sh_si (sh_si (sh_si (sh_si (sh_si (sh_si (sh_si (F.1 107 (4, 18) rfl rfl))))))))))))))))))))))))))))))))))) (rv_si (rv_si (rv_si (rv_si (rv_si (rv_si (rv_si (rv_si (rv_si (rv_si (rv_si (rv_si (rv_si (rv_si (rv_si (rv_si (rv_si (rv_si (rv_si (rv_si (rv_si (rv_si (rv_si (rv_si (rv_si (rv_si (rv_si (rv_si (rv_si (rv_si (rv_si (rv_si (rv_si (F.2.1 13710 118 rfl rfl)))))))))))))))))))))))))))))))))) ?_
  refine x_iloadn (x := 33) rfl rfl ?_
  refine x_iconst (v := 0) rfl ki_0 ?_
  refine y_iast (N := 40) 33 rfl (sh_si (sh_si (sh_si (sh_si (sh_si (sh_si (sh_si (sh_si (sh_si (sh_si (sh_si (sh_si (sh_si (sh_si (sh_si (sh_si (sh_si (sh_si (sh_si (sh_si (sh_si (sh_si (sh_si (sh_si (sh_si (sh_si (sh_si (sh_si (sh_si (sh_si (sh_si (sh_si (sh_si (F.1 118 (100, 40) rfl rfl)))))))))))))))))))))))))))))))))) rfl (jinb_of (by decide)) (by decide) ?_
  refine x_iinc (x := 33) (v := 34) (ls' := [(2, .int 34), (0, .ref 107), (1, .int a2)]) rfl rfl (by decide) rfl rfl ?_
  refine x_goto (tgt := 2) rfl rfl ?_
  refine x_iloadn (x := 34) rfl rfl ?_
  refine x_bipush (v := 40) rfl kb_40 ?_
  refine x_icge (tgt := 21) rfl rfl (br_f (by decide) ?_)
  refine x_aloadn (x := 107) rfl rfl ?_
  refine x_getR (b := 118) 4 14 rfl f_4_47 rfl (congrArg Prod.fst (sh_si (sh_si (sh_si (sh_si (sh_si (sh_si (sh_si (sh_si (sh_si (sh_si (sh_si (sh_si (sh_si (sh_si (sh_si (sh_si (sh_si (sh_si (sh_si (sh_si (sh_si (sh_si (sh_si (sh_si (sh_si (sh_si (sh_si (sh_si (sh_si (sh_si (sh_si (sh_si (sh_si (sh_si (F.1 107 (4, 18) rfl rfl)))))))))))))))))))))))))))))))))))) (rv_si (rv_si (rv_si (rv_si (rv_si (rv_si (rv_si (rv_si (rv_si (rv_si (rv_si (rv_si (rv_si (rv_si (rv_si (rv_si (rv_si (rv_si (rv_si (rv_si (rv_si (rv_si (rv_si (rv_si (rv_si (rv_si (rv_si (rv_si (rv_si (rv_si (rv_si (rv_si (rv_si (rv_si (F.2.1 13710 118 rfl rfl))))))))))))))))))))))))))))))))))) ?_
  refine x_iloadn (x := 34) rfl rfl ?_
  refine x_iconst (v := 0) rfl ki_0 ?_
  refine y_iast (N := 40) 34 rfl (sh_si (sh_si (sh_si (sh_si (sh_si (sh_si (sh_si (sh_si (sh_si (sh_si (sh_si (sh_si (sh_si (sh_si (sh_si (sh_si (sh_si (sh_si (sh_si (sh_si (sh_si (sh_si (sh_si (sh_si (sh_si (sh_si (sh_si (sh_si (sh_si (sh_si (sh_si (sh_si (sh_si (sh_si (F.1 118 (100, 40) rfl rfl))))))))))))))))))))))))))))))))))) rfl (jinb_of (by decide)) (by decide) ?_
  refine x_iinc (x := 34) (v := 35) (ls' := [(2, .int 35), (0, .ref 107), (1, .int a2)]) rfl rfl (by decide) rfl rfl ?_
  refine x_goto (tgt := 2) rfl rfl ?_
  refine x_iloadn (x := 35) rfl rfl ?_
  refine x_bipush (v := 40) rfl kb_40 ?_
  refine x_icge (tgt := 21) rfl rfl (br_f (by decide) ?_)
  refine x_aloadn (x := 107) rfl rfl ?_
  refine x_getR (b := 118) 4 14 rfl f_4_47 rfl (congrArg Prod.fst (sh_si (sh_si (sh_si (sh_si (sh_si (sh_si (sh_si (sh_si (sh_si (sh_si (sh_si (sh_si (sh_si (sh_si (sh_si (sh_si (sh_si (sh_si (sh_si (sh_si (sh_si (sh_si (sh_si (sh_si (sh_si (sh_si (sh_si (sh_si (sh_si (sh_si (sh_si (sh_si (sh_si (sh_si (sh_si (F.1 107 (4, 18) rfl rfl))))))))))))))))))))))))))))))))))))) (rv_si (rv_si (rv_si (rv_si (rv_si (rv_si (rv_si (rv_si (rv_si (rv_si (rv_si (rv_si (rv_si (rv_si (rv_si (rv_si (rv_si (rv_si (rv_si (rv_si (rv_si (rv_si (rv_si (rv_si (rv_si (rv_si (rv_si (rv_si (rv_si (rv_si (rv_si (rv_si (rv_si (rv_si (rv_si (F.2.1 13710 118 rfl rfl)))))))))))))))))))))))))))))))))))) ?_
  refine x_iloadn (x := 35) rfl rfl ?_
  refine x_iconst (v := 0) rfl ki_0 ?_
  refine y_iast (N := 40) 35 rfl (sh_si (sh_si (sh_si (sh_si (sh_si (sh_si (sh_si (sh_si (sh_si (sh_si (sh_si (sh_si (sh_si (sh_si (sh_si (sh_si (sh_si (sh_si (sh_si (sh_si (sh_si (sh_si (sh_si (sh_si (sh_si (sh_si (sh_si (sh_si (sh_si (sh_si (sh_si (sh_si (sh_si (sh_si (sh_si (F.1 118 (100, 40) rfl rfl)))))))))))))))))))))))))))))))))))) rfl (jinb_of (by decide)) (by decide) ?_
  refine x_iinc (x := 35) (v := 36) (ls' := [(2, .int 36), (0, .ref 107), (1, .int a2)]) rfl rfl (by decide) rfl rfl ?_
  refine x_goto (tgt := 2) rfl rfl ?_
  refine x_iloadn (x := 36) rfl rfl ?_
  refine x_bipush (v := 40) rfl kb_40 ?_
  refine x_icge (tgt := 21) rfl rfl (br_f (by decide) ?_)
  refine x_aloadn (x := 107) rfl rfl ?_
  refine x_getR (b := 118) 4 14 rfl f_4_47 rfl (congrArg Prod.fst (sh_si (sh_si (sh_si (sh_si (sh_si (sh_si (sh_si (sh_si (sh_si (sh_si (sh_si (sh_si (sh_si (sh_si (sh_si (sh_si (sh_si (sh_si (sh_si (sh_si (sh_si (sh_si (sh_si (sh_si (sh_si (sh_si (sh_si (sh_si (sh_si (sh_si (sh_si (sh_si (sh_si (sh_si (sh_si (sh_si (F.1 107 (4, 18) rfl rfl)))))))))))))))))))))))))))))))))))))) (rv_si (rv_si (rv_si (rv_si (rv_si (rv_si (rv_si (rv_si (rv_si (rv_si (rv_si (rv_si (rv_si (rv_si (rv_si (rv_si (rv_si (rv_si (rv_si (rv_si (rv_si (rv_si (rv_si (rv_si (rv_si (rv_si (rv_si (rv_si (rv_si (rv_si (rv_si (rv_si (rv_si (rv_si (rv_si (rv_si (F.2.1 13710 118 rfl rfl))))))))))))))))))))))))))))))))))))) ?_
  refine x_iloadn (x := 36) rfl rfl ?_
  refine x_iconst (v := 0) rfl ki_0 ?_
  refine y_iast (N := 40) 36 rfl (sh_si (sh_si (sh_si (sh_si (sh_si (sh_si (sh_si (sh_si (sh_si (sh_si (sh_si (sh_si (sh_si (sh_si (sh_si (sh_si (sh_si (sh_si (sh_si (sh_si (sh_si (sh_si (sh_si (sh_si (sh_si (sh_si (sh_si (sh_si (sh_si (sh_si (sh_si (sh_si (sh_si (sh_si (sh_si (sh_si (F.1 118 (100, 40) rfl rfl))))))))))))))))))))))))))))))))))))) rfl (jinb_of (by decide)) (by decide) ?_
  refine x_iinc (x := 36) (v := 37) (ls' := [(2, .int 37), (0, .ref 107), (1, .int a2)]) rfl rfl (by decide) rfl rfl ?_
  refine x_goto (tgt := 2) rfl rfl ?_
  refine x_iloadn (x := 37) rfl rfl ?_
  refine x_bipush (v := 40) rfl kb_40 ?_
  refine x_icge (tgt := 21) rfl rfl (br_f (by decide) ?_)
  refine x_aloadn (x := 107) rfl rfl ?_
  refine x_getR (b := 118) 4 14 rfl f_4_47 rfl (congrArg Prod.fst (sh_si (sh_si (sh_si (sh_si (sh_si (sh_si (sh_si (sh_si (sh_si (sh_si (sh_si (sh_si (sh_si (sh_si (sh_si (sh_si (sh_si (sh_si (sh_si (sh_si (sh_si (sh_si (sh_si (sh_si (sh_si (sh_si (sh_si (sh_si (sh_si (sh_si (sh_si (sh_si (sh_si (sh_si (sh_si (sh_si (sh_si (F.1 107 (4, 18) rfl rfl))))))))))))))))))))))))))))))))))))))) (rv_si (rv_si (rv_si (rv_si (rv_si (rv_si (rv_si (rv_si (rv_si (rv_si (rv_si (rv_si (rv_si (rv_si (rv_si (rv_si (rv_si (rv_si (rv_si (rv_si (rv_si (rv_si (rv_si (rv_si (rv_si (rv_si (rv_si (rv_si (rv_si (rv_si (rv_si (rv_si (rv_si (rv_si (rv_si (rv_si (rv_si (F.2.1 13710 118 rfl rfl)))))))))))))))))))))))))))))))))))))) ?_
  refine x_iloadn (x := 37) rfl rfl ?_
  refine x_iconst (v := 0) rfl ki_0 ?_
  refine y_iast (N := 40) 37 rfl (sh_si (sh_si (sh_si (sh_si (sh_si (sh_si (sh_si (sh_si (sh_si (sh_si (sh_si (sh_si (sh_si (sh_si (sh_si (sh_si (sh_si (sh_si (sh_si (sh_si (sh_si (sh_si (sh_si (sh_si (sh_si (sh_si (sh_si (sh_si (sh_si (sh_si (sh_si (sh_si (sh_si (sh_si (sh_si (sh_si (sh_si (F.1 118 (100, 40) rfl rfl)))))))))))))))))))))))))))))))))))))) rfl (jinb_of (by decide)) (by decide) ?_
  refine x_iinc (x := 37) (v := 38) (ls' := [(2, .int 38), (0, .ref 107), (1, .int a2)]) rfl rfl (by decide) rfl rfl ?_
  refine x_goto (tgt := 2) rfl rfl ?_
  refine x_iloadn (x := 38) rfl rfl ?_
  refine x_bipush (v := 40) rfl kb_40 ?_
  refine x_icge (tgt := 21) rfl rfl (br_f (by decide) ?_)
  refine x_aloadn (x := 107) rfl rfl ?_
  refine x_getR (b := 118) 4 14 rfl f_4_47 rfl (congrArg Prod.fst (sh_si (sh_si (sh_si (sh_si (sh_si (sh_si (sh_si (sh_si (sh_si (sh_si (sh_si (sh_si (sh_si (sh_si (sh_si (sh_si (sh_si (sh_si (sh_si (sh_si (sh_si (sh_si (sh_si (sh_si (sh_si (sh_si (sh_si (sh_si (sh_si (sh_si (sh_si (sh_si (sh_si (sh_si (sh_si (sh_si (sh_si (sh_si (F.1 107 (4, 18) rfl rfl)))))))))))))))))))))))))))))))))))))))) (rv_si (rv_si (rv_si (rv_si (rv_si (rv_si (rv_si (rv_si (rv_si (rv_si (rv_si (rv_si (rv_si (rv_si (rv_si (rv_si (rv_si (rv_si (rv_si (rv_si (rv_si (rv_si (rv_si (rv_si (rv_si (rv_si (rv_si (rv_si (rv_si (rv_si (rv_si (rv_si (rv_si (rv_si (rv_si (rv_si (rv_si (rv_si (F.2.1 13710 118 rfl rfl))))))))))))))))))))))))))))))))))))))) ?_
  refine x_iloadn (x := 38) rfl rfl ?_
  refine x_iconst (v := 0) rfl ki_0 ?_
  refine y_iast (N := 40) 38 rfl (sh_si (sh_si (sh_si (sh_si (sh_si (sh_si (sh_si (sh_si (sh_si (sh_si (sh_si (sh_si (sh_si (sh_si (sh_si (sh_si (sh_si (sh_si (sh_si (sh_si (sh_si (sh_si (sh_si (sh_si (sh_si (sh_si (sh_si (sh_si (sh_si (sh_si (sh_si (sh_si (sh_si (sh_si (sh_si (sh_si (sh_si (sh_si (F.1 118 (100, 40) rfl rfl))))))))))))))))))))))))))))))))))))))) rfl (jinb_of (by decide)) (by decide) ?_
  refine x_iinc (x := 38) (v := 39) (ls' := [(2, .int 39), (0, .ref 107), (1, .int a2)]) rfl rfl (by decide) rfl rfl ?_
  refine x_goto (tgt := 2) rfl rfl ?_
  refine x_iloadn (x := 39) rfl rfl ?_
  refine x_bipush (v := 40) rfl kb_40 ?_
  refine x_icge (tgt := 21) rfl rfl (br_f (by decide) ?_)
  refine x_aloadn (x := 107) rfl rfl ?_
  refine x_getR (b := 118) 4 14 rfl f_4_47 rfl (congrArg Prod.fst (sh_si (sh_si (sh_si (sh_si (sh_si (sh_si (sh_si (sh_si (sh_si (sh_si (sh_si (sh_si (sh_si (sh_si (sh_si (sh_si (sh_si (sh_si (sh_si (sh_si (sh_si (sh_si (sh_si (sh_si (sh_si (sh_si (sh_si (sh_si (sh_si (sh_si (sh_si (sh_si (sh_si (sh_si (sh_si (sh_si (sh_si (sh_si (sh_si (F.1 107 (4, 18) rfl rfl))))))))))))))))))))))))))))))))))))))))) (rv_si (rv_si (rv_si (rv_si (rv_si (rv_si (rv_si (rv_si (rv_si (rv_si (rv_si (rv_si (rv_si (rv_si (rv_si (rv_si (rv_si (rv_si (rv_si (rv_si (rv_si (rv_si (rv_si (rv_si (rv_si (rv_si (rv_si (rv_si (rv_si (rv_si (rv_si (rv_si (rv_si (rv_si (rv_si (rv_si (rv_si (rv_si (rv_si (F.2.1 13710 118 rfl rfl)))))))))))))))))))))))))))))))))))))))) ?_
  refine x_iloadn (x := 39) rfl rfl ?_
  refine x_iconst (v := 0) rfl ki_0 ?_
  refine y_iast (N := 40) 39 rfl (sh_si (sh_si (sh_si (sh_si (sh_si (sh_si (sh_si (sh_si (sh_si (sh_si (sh_si (sh_si (sh_si (sh_si (sh_si (sh_si (sh_si (sh_si (sh_si (sh_si (sh_si (sh_si (sh_si (sh_si (sh_si (sh_si (sh_si (sh_si (sh_si (sh_si (sh_si (sh_si (sh_si (sh_si (sh_si (sh_si (sh_si (sh_si (sh_si (F.1 118 (100, 40) rfl rfl)))))))))))))))))))))))))))))))))))))))) rfl (jinb_of (by decide)) (by decide) ?_
  refine x_iinc (x := 39) (v := 40) (ls' := [(2, .int 40), (0, .ref 107), (1, .int a2)]) rfl rfl (by decide) rfl rfl ?_
  refine x_goto (tgt := 2) rfl rfl ?_
  refine x_iloadn (x := 40) rfl rfl ?_
  refine x_bipush (v := 40) rfl kb_40 ?_
  refine x_icge (tgt := 21) rfl rfl (br_t (by decide) ?_)
  refine x_iconst (v := 0) rfl ki_0 ?_
  refine x_istoren (ls' := [(2, .int 0), (0, .ref 107), (1, .int a2)]) rfl rfl rfl ?_
  exact ct_un ha hm (jFe_sa rfl rfl (jFe_sa rfl rfl (jFe_sa rfl rfl (jFe_sa rfl rfl (jFe_sa rfl rfl (jFe_sa rfl rfl (jFe_sa rfl rfl (jFe_sa rfl rfl (jFe_sa rfl rfl (jFe_sa rfl rfl (jFe_sa rfl rfl (jFe_sa rfl rfl (jFe_sa rfl rfl (jFe_sa rfl rfl (jFe_sa rfl rfl (jFe_sa rfl rfl (jFe_sa rfl rfl (jFe_sa rfl rfl (jFe_sa rfl rfl (jFe_sa rfl rfl (jFe_sa rfl rfl (jFe_sa rfl rfl (jFe_sa rfl rfl (jFe_sa rfl rfl (jFe_sa rfl rfl (jFe_sa rfl rfl (jFe_sa rfl rfl (jFe_sa rfl rfl (jFe_sa rfl rfl (jFe_sa rfl rfl (jFe_sa rfl rfl (jFe_sa rfl rfl (jFe_sa rfl rfl (jFe_sa rfl rfl (jFe_sa rfl rfl (jFe_sa rfl rfl (jFe_sa rfl rfl (jFe_sa rfl rfl (jFe_sa rfl rfl (jFe_sa rfl rfl F)))))))))))))))))))))))))))))))))))))))) (fun j hj => (iv_si rfl ((iv_si rfl ((iv_si rfl ((iv_si rfl ((iv_si rfl ((iv_si rfl ((iv_si rfl ((iv_si rfl ((iv_si rfl ((iv_si rfl ((iv_si rfl ((iv_si rfl ((iv_si rfl ((iv_si rfl ((iv_si rfl ((iv_si rfl ((iv_si rfl ((iv_si rfl ((iv_si rfl ((iv_si rfl ((iv_si rfl ((iv_si rfl ((iv_si rfl ((iv_si rfl ((iv_si rfl ((iv_si rfl ((iv_si rfl ((iv_si rfl ((iv_si rfl ((iv_si rfl ((iv_si rfl ((iv_si rfl ((iv_si rfl ((iv_si rfl ((iv_si rfl ((iv_si rfl ((iv_si rfl ((iv_si rfl ((iv_si rfl ((iv_si rfl (SB j hj))))))))))))))))))))))))))))))))))))))))))))))))))))))))))))))))))))))))))))))))) (hQ _ (jFb_si rfl (jFb_si rfl (jFb_si rfl (jFb_si rfl (jFb_si rfl (jFb_si rfl (jFb_si rfl (jFb_si rfl (jFb_si rfl (jFb_si rfl (jFb_si rfl (jFb_si rfl (jFb_si rfl (jFb_si rfl (jFb_si rfl (jFb_si rfl (jFb_si rfl (jFb_si rfl (jFb_si rfl (jFb_si rfl (jFb_si rfl (jFb_si rfl (jFb_si rfl (jFb_si rfl (jFb_si rfl (jFb_si rfl (jFb_si rfl (jFb_si rfl (jFb_si rfl (jFb_si rfl (jFb_si rfl (jFb_si rfl (jFb_si rfl (jFb_si rfl (jFb_si rfl (jFb_si rfl (jFb_si rfl (jFb_si rfl (jFb_si rfl (jFb_si rfl FM)))))))))))))))))))))))))))))))))))))))) (jOl_si rfl (jOl_si rfl (jOl_si rfl (jOl_si rfl (jOl_si rfl (jOl_si rfl (jOl_si rfl (jOl_si rfl (jOl_si rfl (jOl_si rfl (jOl_si rfl (jOl_si rfl (jOl_si rfl (jOl_si rfl (jOl_si rfl (jOl_si rfl (jOl_si rfl (jOl_si rfl (jOl_si rfl (jOl_si rfl (jOl_si rfl (jOl_si rfl (jOl_si rfl (jOl_si rfl (jOl_si rfl (jOl_si rfl (jOl_si rfl (jOl_si rfl (jOl_si rfl (jOl_si rfl (jOl_si rfl (jOl_si rfl (jOl_si rfl (jOl_si rfl (jOl_si rfl (jOl_si rfl (jOl_si rfl (jOl_si rfl (jOl_si rfl (jOl_si rfl O))))))))))))))))))))))))))))))))))))))))) (a2.toInt + 1).toNat 0 (by omega)
set_option maxRecDepth 100000 in
set_option maxHeartbeats 40000000 in
theorem px_turn (a1 a2 a3 a4 : Int32) {xs : Nat → Int32} {h : jH} {Q : Option Value → jH → Prop} (F : jFb 31 h) (O : jOl 7 xs h) (hQ : ∀ h', jFb 125 h' → jOl 7 xs h' → Q (some (.int (sp_turn a1 a2 a3 a4))) h') : jC m_X11_turn 100 0 0 [.ref 31, .int a1, .int a2, .int a3, .int a4] h Q := by
  have FM := jFb_up 125 rfl F
  refine jC.of rfl k_X11_turn rfl ?_
  show jX m_X11_turn 100 0 0 0 [(0, .ref 31), (1, .int a1), (2, .int a2), (3, .int a3), (4, .int a4)] [] _ 0 0 _
  refine x_iloadn (x := a1) rfl rfl ?_
  refine x_inst (N := m_X11_isOffice) (As := [.int a1]) (st := []) (d' := 99) (mc := 0) (ms := 0) (host := "") rfl t_X11_isOffice ⟨Or.inl q_11_456, s_X11_isOffice⟩ rfl (by decide) rfl rfl ⟨by decide, by decide⟩ (c_X11_isOffice (x := a1) ?_)
  show jX m_X11_turn 100 0 0 4 [(0, .ref 31), (1, .int a1), (2, .int a2), (3, .int a3), (4, .int a4)] [.int (jp (0 ≤ a1.toInt ∧ a1.toInt ≤ 3))] _ 0 0 _
  refine x_ifeq (tgt := 32) rfl rfl (jpe ⟨fun c1 => ?_, fun c1 => ?_⟩)
  ·
    refine x_iconst (v := (-1)) rfl ki_m1 ?_
    refine x_iret rfl rfl ?_
    exact jqe (show sp_turn a1 a2 a3 a4 = (-1) by unfold sp_turn; (repeat' split) <;> first | rfl | (exfalso; omega)) (hQ _ FM O)
  ·
    refine x_iloadn (x := a2) rfl rfl ?_
    refine x_inst (N := m_X11_isYear) (As := [.int a2]) (st := []) (d' := 99) (mc := 0) (ms := 0) (host := "") rfl t_X11_isYear ⟨Or.inl q_11_433, s_X11_isYear⟩ rfl (by decide) rfl rfl ⟨by decide, by decide⟩ (c_X11_isYear (x := a2) ?_)
    show jX m_X11_turn 100 0 0 11 [(0, .ref 31), (1, .int a1), (2, .int a2), (3, .int a3), (4, .int a4)] [.int (jp (0 ≤ a2.toInt ∧ a2.toInt ≤ 399))] _ 0 0 _
    refine x_ifeq (tgt := 32) rfl rfl (jpe ⟨fun c2 => ?_, fun c2 => ?_⟩)
    ·
      refine x_iconst (v := (-1)) rfl ki_m1 ?_
      refine x_iret rfl rfl ?_
      exact jqe (show sp_turn a1 a2 a3 a4 = (-1) by unfold sp_turn; (repeat' split) <;> first | rfl | (exfalso; omega)) (hQ _ FM O)
    ·
      refine x_iloadn (x := a3) rfl rfl ?_
      refine x_inst (N := m_X11_isDay) (As := [.int a3]) (st := []) (d' := 99) (mc := 0) (ms := 0) (host := "") rfl t_X11_isDay ⟨Or.inl q_11_115, s_X11_isDay⟩ rfl (by decide) rfl rfl ⟨by decide, by decide⟩ (c_X11_isDay (x := a3) ?_)
      show jX m_X11_turn 100 0 0 18 [(0, .ref 31), (1, .int a1), (2, .int a2), (3, .int a3), (4, .int a4)] [.int (jp (0 ≤ a3.toInt ∧ a3.toInt ≤ 146399))] _ 0 0 _
      refine x_ifeq (tgt := 32) rfl rfl (jpe ⟨fun c3 => ?_, fun c3 => ?_⟩)
      ·
        refine x_iconst (v := (-1)) rfl ki_m1 ?_
        refine x_iret rfl rfl ?_
        exact jqe (show sp_turn a1 a2 a3 a4 = (-1) by unfold sp_turn; (repeat' split) <;> first | rfl | (exfalso; omega)) (hQ _ FM O)
      ·
        refine x_iload (x := a4) rfl rfl ?_
        refine x_iflt (tgt := 32) rfl rfl (ti_lt (show (a4 : Int32).toInt = a4.toInt from rfl) (show (0 : Int32).toInt = 0 by decide) ⟨fun c4 => ?_, fun c4 => ?_⟩)
        ·
          refine x_iconst (v := (-1)) rfl ki_m1 ?_
          refine x_iret rfl rfl ?_
          exact jqe (show sp_turn a1 a2 a3 a4 = (-1) by unfold sp_turn; (repeat' split) <;> first | rfl | (exfalso; omega)) (hQ _ FM O)
        ·
          refine x_iload (x := a4) rfl rfl ?_
          refine x_iconst (v := 2) rfl ki_2 ?_
          refine x_icle (tgt := 34) rfl rfl (ti_le (show (a4 : Int32).toInt = a4.toInt from rfl) (show (2 : Int32).toInt = 2 by decide) ⟨fun c5 => ?_, fun c5 => ?_⟩)
          ·
            refine x_aloadn (x := 31) rfl rfl ?_
            refine x_getR (b := 78) 11 4 rfl f_11_41 rfl (congrArg Prod.fst (F.1 31 (11, 13) rfl rfl)) (F.2.1 3972 78 rfl rfl) ?_
            refine x_iloadn (x := a3) rfl rfl ?_
            refine x_inv (N := m_X7_asKnown) (As := [.int a3]) (b := 78) (st := []) (d' := 99) (mc := 0) (ms := 0) (host := "") 7 rfl t_X7_asKnown ⟨Or.inl q_11_240, i_X7_asKnown.1, i_X7_asKnown.2⟩ ⟨by decide, rfl⟩ (congrArg Prod.fst (F.1 78 (7, 16) rfl rfl)) rfl (by decide) rfl rfl ⟨by decide, by decide⟩ (jC.of rfl k_X7_asKnown rfl ?_)
            show jX m_X7_asKnown 99 0 0 0 [(0, .ref 78), (1, .int a3)] [] _ 0 0 _
            refine x_aloadn (x := 78) rfl rfl ?_
            refine x_getR (b := 86) 7 15 rfl f_7_52 rfl (congrArg Prod.fst (F.1 78 (7, 16) rfl rfl)) (F.2.1 9999 86 rfl rfl) ?_
            refine x_iloadn (x := a3) rfl rfl ?_
            refine x_iconst (v := 0) rfl ki_0 ?_
            refine x_aloadn (x := 78) rfl rfl ?_
            refine x_getR (b := 32) 7 0 rfl f_7_55 rfl (congrArg Prod.fst (F.1 78 (7, 16) rfl rfl)) (F.2.1 9984 32 rfl rfl) ?_
            refine y_getI (v := 1) 1 19 rfl f_7_140 rfl (congrArg Prod.fst (F.1 32 (1, 20) rfl rfl)) (F.2.2.1 4115 1 rfl rfl) ?_
            refine x_inst (N := m_X11_isFresh) (As := [.ref 86, .int a3, .int 0, .int 1]) (st := []) (d' := 98) (mc := 0) (ms := 0) (host := "ParishChest") rfl t_X11_isFresh ⟨Or.inr q_7_143, s_X11_isFresh⟩ rfl (by decide) rfl rfl ⟨by decide, by decide⟩ (jC.of rfl k_X11_isFresh rfl ?_)
            show jX m_X11_isFresh 98 0 0 0 [(0, .ref 86), (1, .int a3), (2, .int 0), (3, .int 1)] [] _ 0 0 _
            refine x_aloadn (x := 86) rfl rfl ?_
            refine y_alen (N := 3) (v := 3) rfl (F.1 86 (100, 3) rfl rfl) (by decide) (by decide) ?_
            refine x_iconst (v := 3) rfl ki_3 ?_
            refine x_icge (tgt := 8) rfl rfl (br_t (by decide) ?_)
            refine x_aloadn (x := 86) rfl rfl ?_
            refine x_iconst (v := 0) rfl ki_0 ?_
            refine y_iald (v := 0) (N := 3) 0 rfl (F.1 86 (100, 3) rfl rfl) (jinb_of (by decide)) (by decide) (F.2.2.2.1 86 rfl rfl 0).1 ?_
            refine x_iloadn (x := a3) rfl rfl ?_
            refine x_icne (tgt := 33) rfl rfl (ti_ne (show (0 : Int32).toInt = 0 by decide) (show (a3 : Int32).toInt = a3.toInt from rfl) ⟨fun c6 => ?_, fun c6 => ?_⟩)
            ·
              refine x_iconst (v := 0) rfl ki_0 ?_
              refine x_istore (ls' := [(4, .int 0), (0, .ref 86), (1, .int a3), (2, .int 0), (3, .int 1)]) rfl rfl rfl ?_
              refine x_aloadn (x := 86) rfl rfl ?_
              refine x_iconst (v := 0) rfl ki_0 ?_
              refine x_iloadn (x := a3) rfl rfl ?_
              refine y_iast (N := 3) 0 rfl (F.1 86 (100, 3) rfl rfl) rfl (jinb_of (by decide)) (by decide) ?_
              refine x_aloadn (x := 86) rfl rfl ?_
              refine x_iconst (v := 1) rfl ki_1 ?_
              refine x_iloadn (x := 0) rfl rfl ?_
              refine y_iast (N := 3) 1 rfl (sh_si (F.1 86 (100, 3) rfl rfl)) rfl (jinb_of (by decide)) (by decide) ?_
              refine x_aloadn (x := 86) rfl rfl ?_
              refine x_iconst (v := 2) rfl ki_2 ?_
              refine x_iloadn (x := 1) rfl rfl ?_
              refine y_iast (N := 3) 2 rfl (sh_si (sh_si (F.1 86 (100, 3) rfl rfl))) rfl (jinb_of (by decide)) (by decide) ?_
              refine x_iload (x := 0) rfl rfl ?_
              refine x_zret rfl rfl (by first | decide | exact jp_01 _) ?_
              show jX m_X7_asKnown 99 0 0 16 [(0, .ref 78), (1, .int a3)] [.int 0] _ 0 0 _
              refine x_ifeq (tgt := 20) rfl rfl (br_t (by decide) ?_)
              refine x_iconst (v := 0) rfl ki_0 ?_
              refine x_istoren (ls' := [(2, .int 0), (0, .ref 78), (1, .int a3)]) rfl rfl rfl ?_
              refine x_iloadn (x := 0) rfl rfl ?_
              refine x_aloadn (x := 78) rfl rfl ?_
              refine x_getR (b := 32) 7 0 rfl f_7_55 rfl (congrArg Prod.fst (sh_si (sh_si (sh_si (F.1 78 (7, 16) rfl rfl))))) (rv_si (rv_si (rv_si (F.2.1 9984 32 rfl rfl)))) ?_
              refine x_getR (b := 33) 1 0 rfl f_7_63 rfl (congrArg Prod.fst (sh_si (sh_si (sh_si (F.1 32 (1, 20) rfl rfl))))) (rv_si (rv_si (rv_si (F.2.1 4096 33 rfl rfl)))) ?_
              refine y_getI (v := 0) 8 3 rfl f_7_85 rfl (congrArg Prod.fst (sh_si (sh_si (sh_si (F.1 33 (8, 4) rfl rfl))))) (iv_si rfl (iv_si rfl (iv_si rfl (F.2.2.1 4227 0 rfl rfl)))) ?_
              refine x_iconst (v := 3) rfl ki_3 ?_
              refine y_imul (v := 0) rfl (by decide) ?_
              refine x_icge (tgt := 96) rfl rfl (br_t (by decide) ?_)
              refine x_aloadn (x := 78) rfl rfl ?_
              refine x_iconst (v := 0) rfl ki_0 ?_
              refine x_putI 7 13 rfl f_7_46 rfl (jfin_no TX7 RX7 16 rfl rfl) (congrArg Prod.fst (sh_si (sh_si (sh_si (F.1 78 (7, 16) rfl rfl))))) rfl ?_
              refine x_iconst (v := 0) rfl ki_0 ?_
              refine x_istoren (ls' := [(2, .int 0), (0, .ref 78), (1, .int a3)]) rfl rfl rfl ?_
              refine x_iloadn (x := 0) rfl rfl ?_
              refine x_aloadn (x := 78) rfl rfl ?_
              refine x_getR (b := 32) 7 0 rfl f_7_55 rfl (congrArg Prod.fst (sh_si (sh_si (sh_si (sh_si (F.1 78 (7, 16) rfl rfl)))))) (rv_si (rv_si (rv_si (rv_si (F.2.1 9984 32 rfl rfl))))) ?_
              refine x_getR (b := 39) 1 3 rfl f_7_150 rfl (congrArg Prod.fst (sh_si (sh_si (sh_si (sh_si (F.1 32 (1, 20) rfl rfl)))))) (rv_si (rv_si (rv_si (rv_si (F.2.1 4099 39 rfl rfl))))) ?_
              refine y_getI (v := 0) 8 3 rfl f_7_85 rfl (congrArg Prod.fst (sh_si (sh_si (sh_si (sh_si (F.1 39 (8, 4) rfl rfl)))))) (iv_si rfl (iv_si rfl (iv_si rfl (iv_si rfl (F.2.2.1 4995 0 rfl rfl))))) ?_
              refine x_icge (tgt := 175) rfl rfl (br_t (by decide) ?_)
              refine x_vret rfl rfl ?_
              show jX m_X11_turn 100 0 0 42 [(0, .ref 31), (1, .int a1), (2, .int a2), (3, .int a3), (4, .int a4)] [] _ 0 0 _
              refine x_aloadn (x := 31) rfl rfl ?_
              refine x_getR (b := 107) 11 8 rfl f_11_75 rfl (congrArg Prod.fst (sh_si (sh_si (sh_si (sh_si (F.1 31 (11, 13) rfl rfl)))))) (rv_si (rv_si (rv_si (rv_si (F.2.1 3976 107 rfl rfl))))) ?_
              refine x_iloadn (x := a1) rfl rfl ?_
              refine x_iloadn (x := a2) rfl rfl ?_
              refine x_iloadn (x := a3) rfl rfl ?_
              refine x_inv (N := m_X4_runTurns) (As := [.int a1, .int a2, .int a3]) (b := 107) (st := []) (d' := 99) (mc := 0) (ms := 0) (host := "") 4 rfl t_X4_runTurns ⟨Or.inl q_11_459, i_X4_runTurns.1, i_X4_runTurns.2⟩ ⟨by decide, rfl⟩ (congrArg Prod.fst (sh_si (sh_si (sh_si (sh_si (F.1 107 (4, 18) rfl rfl)))))) rfl (by decide) rfl rfl ⟨by decide, by decide⟩ (c_runTurns (by omega) (jFe_sf rfl rfl rfl (jFe_sa rfl rfl (jFe_sa rfl rfl (jFe_sa rfl rfl (jFe_of F))))) (jFb_si rfl (jFb_si rfl (jFb_si rfl (jFb_si rfl FM)))) (jOl_si rfl (jOl_si rfl (jOl_si rfl (jOl_si rfl O)))) ?_)
              intro h2 m e2 T2
              obtain ⟨F2, FM2, O2, Y2, SB, PI⟩ := T2
              show jX m_X11_turn 100 0 0 52 [(0, .ref 31), (1, .int a1), (2, .int a2), (3, .int a3), (4, .int a4)] [] _ 0 0 _
              refine x_iload (x := a4) rfl rfl ?_
              by_cases c7 : a4.toInt = 0
              ·
                refine x_lookup (tgt := 80) (off := 26) rfl (by decide) (by rw [show (a4).toInt = 0 from c7]; decide) rfl ?_
                refine x_aloadn (x := 31) rfl rfl ?_
                refine x_getR (b := 107) 11 8 rfl f_11_75 rfl (congrArg Prod.fst (F2.1 31 (11, 13) rfl rfl)) (F2.2.1 3976 107 rfl rfl) ?_
                refine x_getR (b := 115) 4 11 rfl f_11_463 rfl (congrArg Prod.fst (F2.1 107 (4, 18) rfl rfl)) (F2.2.1 13707 115 rfl rfl) ?_
                refine x_iloadn (x := a2) rfl rfl ?_
                refine y_iald (v := (-1)) (N := 400) a2.toNatClampNeg rfl (F2.1 115 (100, 400) rfl rfl) (vpi (by omega)) rfl (SB _ (jclt (by omega))) ?_
                refine x_iret rfl rfl ?_
                exact jqe (show sp_turn a1 a2 a3 a4 = (-1) by unfold sp_turn; (repeat' split) <;> first | rfl | (exfalso; omega)) (hQ _ FM2 O2)
              by_cases c8 : a4.toInt = 1
              ·
                refine x_lookup (tgt := 90) (off := 36) rfl (by decide) (by rw [show (a4).toInt = 1 from c8]; decide) rfl ?_
                refine x_aloadn (x := 31) rfl rfl ?_
                refine x_getR (b := 107) 11 8 rfl f_11_75 rfl (congrArg Prod.fst (F2.1 31 (11, 13) rfl rfl)) (F2.2.1 3976 107 rfl rfl) ?_
                refine x_getR (b := 116) 4 12 rfl f_11_466 rfl (congrArg Prod.fst (F2.1 107 (4, 18) rfl rfl)) (F2.2.1 13708 116 rfl rfl) ?_
                refine x_iloadn (x := a2) rfl rfl ?_
                refine y_iald (v := 0) (N := 400) a2.toNatClampNeg rfl (F2.1 116 (100, 400) rfl rfl) (vpi (by omega)) rfl (PI _ (jclt (by omega))) ?_
                refine x_iret rfl rfl ?_
                exact jqe (show sp_turn a1 a2 a3 a4 = 0 by unfold sp_turn; (repeat' split) <;> first | rfl | (exfalso; omega)) (hQ _ FM2 O2)
              refine x_lookup (tgt := 100) (off := 46) rfl (by decide) (jlk_out c7 c8) rfl ?_
              refine x_aloadn (x := 31) rfl rfl ?_
              refine x_getR (b := 107) 11 8 rfl f_11_75 rfl (congrArg Prod.fst (F2.1 31 (11, 13) rfl rfl)) (F2.2.1 3976 107 rfl rfl) ?_
              refine x_iloadn (x := a2) rfl rfl ?_
              refine x_inv (N := m_X4_unevenness) (As := [.int a2]) (b := 107) (st := []) (d' := 99) (mc := 0) (ms := 0) (host := "") 4 rfl t_X4_unevenness ⟨Or.inl q_11_469, i_X4_unevenness.1, i_X4_unevenness.2⟩ ⟨by decide, rfl⟩ (congrArg Prod.fst (F2.1 107 (4, 18) rfl rfl)) rfl (by decide) rfl rfl ⟨by decide, by decide⟩ (c_uneven (by omega) e2 F2 FM2 O2 SB ?_)
              intro h3 FM3 O3
              show jX m_X11_turn 100 0 0 108 [(0, .ref 31), (1, .int a1), (2, .int a2), (3, .int a3), (4, .int a4)] [.int 0] _ 0 0 _
              refine x_iret rfl rfl ?_
              exact jqe (show sp_turn a1 a2 a3 a4 = 0 by unfold sp_turn; (repeat' split) <;> first | rfl | (exfalso; omega)) (hQ _ FM3 O3)
            ·
              refine x_aloadn (x := 86) rfl rfl ?_
              refine x_iconst (v := 1) rfl ki_1 ?_
              refine y_iald (v := 0) (N := 3) 1 rfl (F.1 86 (100, 3) rfl rfl) (jinb_of (by decide)) (by decide) (F.2.2.2.1 86 rfl rfl 1).1 ?_
              refine x_iloadn (x := 0) rfl rfl ?_
              refine x_icne (tgt := 33) rfl rfl (bn_f (by decide) ?_)
              refine x_aloadn (x := 86) rfl rfl ?_
              refine x_iconst (v := 2) rfl ki_2 ?_
              refine y_iald (v := 0) (N := 3) 2 rfl (F.1 86 (100, 3) rfl rfl) (jinb_of (by decide)) (by decide) (F.2.2.2.1 86 rfl rfl 2).1 ?_
              refine x_iloadn (x := 1) rfl rfl ?_
              refine x_icne (tgt := 33) rfl rfl (bn_t (by decide) ?_)
              refine x_iconst (v := 0) rfl ki_0 ?_
              refine x_istore (ls' := [(4, .int 0), (0, .ref 86), (1, .int a3), (2, .int 0), (3, .int 1)]) rfl rfl rfl ?_
              refine x_aloadn (x := 86) rfl rfl ?_
              refine x_iconst (v := 0) rfl ki_0 ?_
              refine x_iloadn (x := a3) rfl rfl ?_
              refine y_iast (N := 3) 0 rfl (F.1 86 (100, 3) rfl rfl) rfl (jinb_of (by decide)) (by decide) ?_
              refine x_aloadn (x := 86) rfl rfl ?_
              refine x_iconst (v := 1) rfl ki_1 ?_
              refine x_iloadn (x := 0) rfl rfl ?_
              refine y_iast (N := 3) 1 rfl (sh_si (F.1 86 (100, 3) rfl rfl)) rfl (jinb_of (by decide)) (by decide) ?_
              refine x_aloadn (x := 86) rfl rfl ?_
              refine x_iconst (v := 2) rfl ki_2 ?_
              refine x_iloadn (x := 1) rfl rfl ?_
              refine y_iast (N := 3) 2 rfl (sh_si (sh_si (F.1 86 (100, 3) rfl rfl))) rfl (jinb_of (by decide)) (by decide) ?_
              refine x_iload (x := 0) rfl rfl ?_
              refine x_zret rfl rfl (by first | decide | exact jp_01 _) ?_
              show jX m_X7_asKnown 99 0 0 16 [(0, .ref 78), (1, .int a3)] [.int 0] _ 0 0 _
              refine x_ifeq (tgt := 20) rfl rfl (br_t (by decide) ?_)
              refine x_iconst (v := 0) rfl ki_0 ?_
              refine x_istoren (ls' := [(2, .int 0), (0, .ref 78), (1, .int a3)]) rfl rfl rfl ?_
              refine x_iloadn (x := 0) rfl rfl ?_
              refine x_aloadn (x := 78) rfl rfl ?_
              refine x_getR (b := 32) 7 0 rfl f_7_55 rfl (congrArg Prod.fst (sh_si (sh_si (sh_si (F.1 78 (7, 16) rfl rfl))))) (rv_si (rv_si (rv_si (F.2.1 9984 32 rfl rfl)))) ?_
              refine x_getR (b := 33) 1 0 rfl f_7_63 rfl (congrArg Prod.fst (sh_si (sh_si (sh_si (F.1 32 (1, 20) rfl rfl))))) (rv_si (rv_si (rv_si (F.2.1 4096 33 rfl rfl)))) ?_
              refine y_getI (v := 0) 8 3 rfl f_7_85 rfl (congrArg Prod.fst (sh_si (sh_si (sh_si (F.1 33 (8, 4) rfl rfl))))) (iv_si rfl (iv_si rfl (iv_si rfl (F.2.2.1 4227 0 rfl rfl)))) ?_
              refine x_iconst (v := 3) rfl ki_3 ?_
              refine y_imul (v := 0) rfl (by decide) ?_
              refine x_icge (tgt := 96) rfl rfl (br_t (by decide) ?_)
              refine x_aloadn (x := 78) rfl rfl ?_
              refine x_iconst (v := 0) rfl ki_0 ?_
              refine x_putI 7 13 rfl f_7_46 rfl (jfin_no TX7 RX7 16 rfl rfl) (congrArg Prod.fst (sh_si (sh_si (sh_si (F.1 78 (7, 16) rfl rfl))))) rfl ?_
              refine x_iconst (v := 0) rfl ki_0 ?_
              refine x_istoren (ls' := [(2, .int 0), (0, .ref 78), (1, .int a3)]) rfl rfl rfl ?_
              refine x_iloadn (x := 0) rfl rfl ?_
              refine x_aloadn (x := 78) rfl rfl ?_
              refine x_getR (b := 32) 7 0 rfl f_7_55 rfl (congrArg Prod.fst (sh_si (sh_si (sh_si (sh_si (F.1 78 (7, 16) rfl rfl)))))) (rv_si (rv_si (rv_si (rv_si (F.2.1 9984 32 rfl rfl))))) ?_
              refine x_getR (b := 39) 1 3 rfl f_7_150 rfl (congrArg Prod.fst (sh_si (sh_si (sh_si (sh_si (F.1 32 (1, 20) rfl rfl)))))) (rv_si (rv_si (rv_si (rv_si (F.2.1 4099 39 rfl rfl))))) ?_
              refine y_getI (v := 0) 8 3 rfl f_7_85 rfl (congrArg Prod.fst (sh_si (sh_si (sh_si (sh_si (F.1 39 (8, 4) rfl rfl)))))) (iv_si rfl (iv_si rfl (iv_si rfl (iv_si rfl (F.2.2.1 4995 0 rfl rfl))))) ?_
              refine x_icge (tgt := 175) rfl rfl (br_t (by decide) ?_)
              refine x_vret rfl rfl ?_
              show jX m_X11_turn 100 0 0 42 [(0, .ref 31), (1, .int a1), (2, .int a2), (3, .int a3), (4, .int a4)] [] _ 0 0 _
              refine x_aloadn (x := 31) rfl rfl ?_
              refine x_getR (b := 107) 11 8 rfl f_11_75 rfl (congrArg Prod.fst (sh_si (sh_si (sh_si (sh_si (F.1 31 (11, 13) rfl rfl)))))) (rv_si (rv_si (rv_si (rv_si (F.2.1 3976 107 rfl rfl))))) ?_
              refine x_iloadn (x := a1) rfl rfl ?_
              refine x_iloadn (x := a2) rfl rfl ?_
              refine x_iloadn (x := a3) rfl rfl ?_
              refine x_inv (N := m_X4_runTurns) (As := [.int a1, .int a2, .int a3]) (b := 107) (st := []) (d' := 99) (mc := 0) (ms := 0) (host := "") 4 rfl t_X4_runTurns ⟨Or.inl q_11_459, i_X4_runTurns.1, i_X4_runTurns.2⟩ ⟨by decide, rfl⟩ (congrArg Prod.fst (sh_si (sh_si (sh_si (sh_si (F.1 107 (4, 18) rfl rfl)))))) rfl (by decide) rfl rfl ⟨by decide, by decide⟩ (c_runTurns (by omega) (jFe_sf rfl rfl rfl (jFe_sa rfl rfl (jFe_sa rfl rfl (jFe_sa rfl rfl (jFe_of F))))) (jFb_si rfl (jFb_si rfl (jFb_si rfl (jFb_si rfl FM)))) (jOl_si rfl (jOl_si rfl (jOl_si rfl (jOl_si rfl O)))) ?_)
              intro h2 m e2 T2
              obtain ⟨F2, FM2, O2, Y2, SB, PI⟩ := T2
              show jX m_X11_turn 100 0 0 52 [(0, .ref 31), (1, .int a1), (2, .int a2), (3, .int a3), (4, .int a4)] [] _ 0 0 _
              refine x_iload (x := a4) rfl rfl ?_
              by_cases c9 : a4.toInt = 0
              ·
                refine x_lookup (tgt := 80) (off := 26) rfl (by decide) (by rw [show (a4).toInt = 0 from c9]; decide) rfl ?_
                refine x_aloadn (x := 31) rfl rfl ?_
                refine x_getR (b := 107) 11 8 rfl f_11_75 rfl (congrArg Prod.fst (F2.1 31 (11, 13) rfl rfl)) (F2.2.1 3976 107 rfl rfl) ?_
                refine x_getR (b := 115) 4 11 rfl f_11_463 rfl (congrArg Prod.fst (F2.1 107 (4, 18) rfl rfl)) (F2.2.1 13707 115 rfl rfl) ?_
                refine x_iloadn (x := a2) rfl rfl ?_
                refine y_iald (v := (-1)) (N := 400) a2.toNatClampNeg rfl (F2.1 115 (100, 400) rfl rfl) (vpi (by omega)) rfl (SB _ (jclt (by omega))) ?_
                refine x_iret rfl rfl ?_
                exact jqe (show sp_turn a1 a2 a3 a4 = (-1) by unfold sp_turn; (repeat' split) <;> first | rfl | (exfalso; omega)) (hQ _ FM2 O2)
              by_cases c10 : a4.toInt = 1
              ·
                refine x_lookup (tgt := 90) (off := 36) rfl (by decide) (by rw [show (a4).toInt = 1 from c10]; decide) rfl ?_
                refine x_aloadn (x := 31) rfl rfl ?_
                refine x_getR (b := 107) 11 8 rfl f_11_75 rfl (congrArg Prod.fst (F2.1 31 (11, 13) rfl rfl)) (F2.2.1 3976 107 rfl rfl) ?_
                refine x_getR (b := 116) 4 12 rfl f_11_466 rfl (congrArg Prod.fst (F2.1 107 (4, 18) rfl rfl)) (F2.2.1 13708 116 rfl rfl) ?_
                refine x_iloadn (x := a2) rfl rfl ?_
                refine y_iald (v := 0) (N := 400) a2.toNatClampNeg rfl (F2.1 116 (100, 400) rfl rfl) (vpi (by omega)) rfl (PI _ (jclt (by omega))) ?_
                refine x_iret rfl rfl ?_
                exact jqe (show sp_turn a1 a2 a3 a4 = 0 by unfold sp_turn; (repeat' split) <;> first | rfl | (exfalso; omega)) (hQ _ FM2 O2)
              refine x_lookup (tgt := 100) (off := 46) rfl (by decide) (jlk_out c9 c10) rfl ?_
              refine x_aloadn (x := 31) rfl rfl ?_
              refine x_getR (b := 107) 11 8 rfl f_11_75 rfl (congrArg Prod.fst (F2.1 31 (11, 13) rfl rfl)) (F2.2.1 3976 107 rfl rfl) ?_
              refine x_iloadn (x := a2) rfl rfl ?_
              refine x_inv (N := m_X4_unevenness) (As := [.int a2]) (b := 107) (st := []) (d' := 99) (mc := 0) (ms := 0) (host := "") 4 rfl t_X4_unevenness ⟨Or.inl q_11_469, i_X4_unevenness.1, i_X4_unevenness.2⟩ ⟨by decide, rfl⟩ (congrArg Prod.fst (F2.1 107 (4, 18) rfl rfl)) rfl (by decide) rfl rfl ⟨by decide, by decide⟩ (c_uneven (by omega) e2 F2 FM2 O2 SB ?_)
              intro h3 FM3 O3
              show jX m_X11_turn 100 0 0 108 [(0, .ref 31), (1, .int a1), (2, .int a2), (3, .int a3), (4, .int a4)] [.int 0] _ 0 0 _
              refine x_iret rfl rfl ?_
              exact jqe (show sp_turn a1 a2 a3 a4 = 0 by unfold sp_turn; (repeat' split) <;> first | rfl | (exfalso; omega)) (hQ _ FM3 O3)
          ·
            refine x_iconst (v := (-1)) rfl ki_m1 ?_
            refine x_iret rfl rfl ?_
            exact jqe (show sp_turn a1 a2 a3 a4 = (-1) by unfold sp_turn; (repeat' split) <;> first | rfl | (exfalso; omega)) (hQ _ FM O)
set_option maxRecDepth 100000 in
set_option maxHeartbeats 40000000 in
theorem mt_tc {a1 x : Int32} {h : jH} {Q : Option Value → jH → Prop} (F : jFe jXIm jXAm 125 h) (hQ : Q (some (.int (-1))) h) : ∀ r m : Nat, r + m = 720 → jX m_X12_turnClause 98 0 0 5 [(4, .int (nI m)), (3, .int (-1)), (0, .ref 125), (1, .int a1), (2, .int x)] [] h 0 0 Q := by
  intro r
  induction r with
  | zero =>
    intro m hr
    have hm : (nI m).toInt = (m : Int) := jnIt (by omega)
    refine x_iload (x := nI m) rfl rfl ?_
    refine x_sipush (v := 720) rfl ks_720 ?_
    refine x_icge (tgt := 125) rfl rfl (ti_ge (show (nI m : Int32).toInt = (nI m).toInt from rfl) (show (720 : Int32).toInt = 720 by decide) ⟨fun c1 => ?_, fun c1 => ?_⟩)
    ·
      refine x_iloadn (x := (-1)) rfl rfl ?_
      refine x_iret rfl rfl ?_
      exact hQ
    ·
      exfalso
      omega
  | succ r ih =>
    intro m hr
    have hm : (nI m).toInt = (m : Int) := jnIt (by omega)
    refine x_iload (x := nI m) rfl rfl ?_
    refine x_sipush (v := 720) rfl ks_720 ?_
    refine x_icge (tgt := 125) rfl rfl (ti_ge (show (nI m : Int32).toInt = (nI m).toInt from rfl) (show (720 : Int32).toInt = 720 by decide) ⟨fun c1 => ?_, fun c1 => ?_⟩)
    ·
      refine x_iloadn (x := (-1)) rfl rfl ?_
      refine x_iret rfl rfl ?_
      exact hQ
    ·
      refine x_iload (x := nI m) rfl rfl ?_
      refine x_sipush (v := 360) rfl ks_360 ?_
      refine x_irem rfl (by decide) ?_
      refine x_bipush (v := 12) rfl kb_12 ?_
      refine x_idiv rfl (by decide) ?_
      refine x_istore (ls' := [(5, .int (((nI m) - (nI m) / 360 * 360) / 12)), (4, .int (nI m)), (3, .int (-1)), (0, .ref 125), (1, .int a1), (2, .int x)]) rfl rfl rfl ?_
      refine x_iload (x := nI m) rfl rfl ?_
      refine x_bipush (v := 12) rfl kb_12 ?_
      refine x_irem rfl (by decide) ?_
      refine x_istore (ls' := [(6, .int ((nI m) - (nI m) / 12 * 12)), (5, .int (((nI m) - (nI m) / 360 * 360) / 12)), (4, .int (nI m)), (3, .int (-1)), (0, .ref 125), (1, .int a1), (2, .int x)]) rfl rfl rfl ?_
      refine x_aloadn (x := 125) rfl rfl ?_
      refine x_iload (x := ((nI m) - (nI m) / 360 * 360) / 12) rfl rfl ?_
      refine x_iload (x := (nI m) - (nI m) / 12 * 12) rfl rfl ?_
      refine x_inv (N := m_X12_isClause) (As := [.int (((nI m) - (nI m) / 360 * 360) / 12), .int ((nI m) - (nI m) / 12 * 12)]) (b := 125) (st := []) (d' := 97) (mc := 0) (ms := 0) (host := "") 12 rfl t_X12_isClause ⟨Or.inl q_12_685, i_X12_isClause.1, i_X12_isClause.2⟩ ⟨by decide, rfl⟩ (congrArg Prod.fst (F.1 125 (12, 92) rfl rfl)) rfl (by decide) rfl rfl ⟨by decide, by decide⟩ (jC.of rfl k_X12_isClause rfl ?_)
      show jX m_X12_isClause 97 0 0 0 [(0, .ref 125), (1, .int (((nI m) - (nI m) / 360 * 360) / 12)), (2, .int ((nI m) - (nI m) / 12 * 12))] [] _ 0 0 _
      refine x_iloadn (x := ((nI m) - (nI m) / 360 * 360) / 12) rfl rfl ?_
      refine x_i2l rfl ?_
      refine x_lconst (v := 0) rfl kl_0 ?_
      refine x_aloadn (x := 125) rfl rfl ?_
      refine x_getR (b := 126) 12 2 rfl f_12_8 rfl (congrArg Prod.fst (F.1 125 (12, 92) rfl rfl)) (F.2.1 16002 126 rfl rfl) ?_
      refine x_iconst (v := 4) rfl ki_4 ?_
      refine y_iald (v := 0) (N := 50660) 4 rfl (F.1 126 (100, 50660) rfl rfl) (jinb_of (by decide)) (by decide) (F.2.2.2.1 126 rfl rfl rfl 4).1 ?_
      refine y_i2l (v := 0) rfl (by decide) ?_
      refine x_lconst (v := 1) rfl kl_1 ?_
      refine y_lsub (v := (-1)) rfl (by decide) ?_
      refine x_inst (N := m_X12_in) (As := [.long ((((nI m) - (nI m) / 360 * 360) / 12).toInt64), .long 0, .long (-1)]) (st := []) (d' := 96) (mc := 0) (ms := 0) (host := "") rfl t_X12_in ⟨Or.inl q_12_188, s_X12_in⟩ rfl (by decide) rfl rfl ⟨by decide, by decide⟩ (c_X12_in (m := (((nI m) - (nI m) / 360 * 360) / 12).toInt) (a := 0) (b := (-1)) (jt_l _) (by decide) (by decide) ?_)
      show jX m_X12_isClause 97 0 0 15 [(0, .ref 125), (1, .int (((nI m) - (nI m) / 360 * 360) / 12)), (2, .int ((nI m) - (nI m) / 12 * 12))] [.int (jp (0 ≤ (((nI m) - (nI m) / 360 * 360) / 12).toInt ∧ (((nI m) - (nI m) / 360 * 360) / 12).toInt ≤ (-1)))] _ 0 0 _
      refine x_ifeq (tgt := 45) rfl rfl (jpe ⟨fun c2 => ?_, fun c2 => ?_⟩)
      ·
        refine x_iconst (v := 0) rfl ki_0 ?_
        refine x_zret rfl rfl (by first | decide | exact jp_01 _) ?_
        show jX m_X12_turnClause 98 0 0 39 [(6, .int ((nI m) - (nI m) / 12 * 12)), (5, .int (((nI m) - (nI m) / 360 * 360) / 12)), (4, .int (nI m)), (3, .int (-1)), (0, .ref 125), (1, .int a1), (2, .int x)] [.int 0] _ 0 0 _
        refine x_ifeq (tgt := 119) rfl rfl (br_t (by decide) ?_)
        refine x_iinc (x := nI m) (v := nI m + Int32.ofInt 1) (ls' := [(4, .int (nI m + Int32.ofInt 1)), (6, .int ((nI m) - (nI m) / 12 * 12)), (5, .int (((nI m) - (nI m) / 360 * 360) / 12)), (3, .int (-1)), (0, .ref 125), (1, .int a1), (2, .int x)]) rfl rfl rfl rfl rfl ?_
        refine x_goto (tgt := 5) rfl rfl ?_
        rw [jnI1 m]
        exact jX.less (by simp) (ih (m + 1) (by omega))
      ·
        exfalso
        omega
set_option maxRecDepth 100000 in
set_option maxHeartbeats 40000000 in
theorem c_turnClause {a1 x : Int32} {h : jH} {Q : Option Value → jH → Prop} (F : jFe jXIm jXAm 125 h) (hQ : Q (some (.int (-1))) h) : jC m_X12_turnClause 98 0 0 [.ref 125, .int a1, .int x] h Q := by
  refine jC.of rfl k_X12_turnClause rfl ?_
  show jX m_X12_turnClause 98 0 0 0 [(0, .ref 125), (1, .int a1), (2, .int x)] [] _ 0 0 _
  refine x_iconst (v := (-1)) rfl ki_m1 ?_
  refine x_istoren (ls' := [(3, .int (-1)), (0, .ref 125), (1, .int a1), (2, .int x)]) rfl rfl rfl ?_
  refine x_iconst (v := 0) rfl ki_0 ?_
  refine x_istore (ls' := [(4, .int 0), (3, .int (-1)), (0, .ref 125), (1, .int a1), (2, .int x)]) rfl rfl rfl ?_
  exact mt_tc F hQ 720 0 rfl
set_option maxRecDepth 100000 in
set_option maxHeartbeats 40000000 in
theorem mt_ft {a1 a2 : Int32} {xs : Nat → Int32} {Q : Option Value → jH → Prop} (ha : 0 ≤ a2.toInt ∧ a2.toInt ≤ 399) (kk : ∀ (m : Nat) h, (m : Int) = a2.toInt + 1 → jTm xs m h → Q none h) : ∀ r m : Nat, (r : Int) + m = a2.toInt + 1 → ∀ h, jTm xs m h → jX m_X12_findTurns 99 0 0 14 [(5, .int (nI m)), (4, .int 0), (3, .int 0), (0, .ref 125), (1, .int a1), (2, .int a2)] [] h 0 0 Q := by
  intro r
  induction r with
  | zero =>
    intro m hr h T
    have hm : (nI m).toInt = (m : Int) := jnIt (by omega)
    obtain ⟨F, O, SB, PI⟩ := T
    refine x_iload (x := nI m) rfl rfl ?_
    refine x_iloadn (x := a2) rfl rfl ?_
    refine x_icgt (tgt := 257) rfl rfl (ti_gt (show (nI m : Int32).toInt = (nI m).toInt from rfl) (show (a2 : Int32).toInt = a2.toInt from rfl) ⟨fun c1 => ?_, fun c1 => ?_⟩)
    ·
      refine x_vret rfl rfl ?_
      exact kk m _ (by omega) ⟨F, O, SB, PI⟩
    ·
      exfalso
      omega
  | succ r ih =>
    intro m hr h T
    have hm : (nI m).toInt = (m : Int) := jnIt (by omega)
    obtain ⟨F, O, SB, PI⟩ := T
    refine x_iload (x := nI m) rfl rfl ?_
    refine x_iloadn (x := a2) rfl rfl ?_
    refine x_icgt (tgt := 257) rfl rfl (ti_gt (show (nI m : Int32).toInt = (nI m).toInt from rfl) (show (a2 : Int32).toInt = a2.toInt from rfl) ⟨fun c1 => ?_, fun c1 => ?_⟩)
    ·
      refine x_vret rfl rfl ?_
      exact kk m _ (by omega) ⟨F, O, SB, PI⟩
    ·
      refine x_iload (x := nI m) rfl rfl ?_
      refine x_sipush (v := 366) rfl ks_366 ?_
      refine x_imul rfl ?_
      have c2 := jmulr (x := nI m) (y := 366) (n := 366) (by decide) (by omega)
      refine x_istore (ls' := [(6, .int ((nI m) * 366)), (5, .int (nI m)), (4, .int 0), (3, .int 0), (0, .ref 125), (1, .int a1), (2, .int a2)]) rfl rfl rfl ?_
      refine x_aloadn (x := 125) rfl rfl ?_
      refine x_iloadn (x := a1) rfl rfl ?_
      refine x_iload (x := (nI m) * 366) rfl rfl ?_
      refine x_inv (N := m_X12_turnClause) (As := [.int a1, .int ((nI m) * 366)]) (b := 125) (st := []) (d' := 98) (mc := 0) (ms := 0) (host := "") 12 rfl t_X12_turnClause ⟨Or.inl q_12_832, i_X12_turnClause.1, i_X12_turnClause.2⟩ ⟨by decide, rfl⟩ (congrArg Prod.fst (F.1 125 (12, 92) rfl rfl)) rfl (by decide) rfl rfl ⟨by decide, by decide⟩ (c_turnClause F ?_)
      show jX m_X12_findTurns 99 0 0 35 [(6, .int ((nI m) * 366)), (5, .int (nI m)), (4, .int 0), (3, .int 0), (0, .ref 125), (1, .int a1), (2, .int a2)] [.int (-1)] _ 0 0 _
      refine x_istore (ls' := [(7, .int (-1)), (6, .int ((nI m) * 366)), (5, .int (nI m)), (4, .int 0), (3, .int 0), (0, .ref 125), (1, .int a1), (2, .int a2)]) rfl rfl rfl ?_
      refine x_aloadn (x := 125) rfl rfl ?_
      refine x_getR (b := 168) 12 83 rfl f_12_162 rfl (congrArg Prod.fst (F.1 125 (12, 92) rfl rfl)) (F.2.1 16083 168 rfl rfl) ?_
      refine x_iload (x := nI m) rfl rfl ?_
      refine x_iconst (v := (-1)) rfl ki_m1 ?_
      refine y_iast (N := 400) (nI m).toNatClampNeg rfl (F.1 168 (100, 400) rfl rfl) rfl (vpi (by omega)) rfl ?_
      refine x_aloadn (x := 125) rfl rfl ?_
      refine x_getR (b := 169) 12 84 rfl f_12_165 rfl (congrArg Prod.fst (sh_si (F.1 125 (12, 92) rfl rfl))) (rv_si (F.2.1 16084 169 rfl rfl)) ?_
      refine x_iload (x := nI m) rfl rfl ?_
      refine x_iconst (v := 0) rfl ki_0 ?_
      refine y_iast (N := 400) (nI m).toNatClampNeg rfl (sh_si (F.1 169 (100, 400) rfl rfl)) rfl (vpi (by omega)) rfl ?_
      refine x_iload (x := (-1)) rfl rfl ?_
      refine x_iconst (v := (-1)) rfl ki_m1 ?_
      refine x_icne (tgt := 62) rfl rfl (bn_f (by decide) ?_)
      refine x_goto (tgt := 251) rfl rfl ?_
      refine x_iinc (x := nI m) (v := nI m + Int32.ofInt 1) (ls' := [(5, .int (nI m + Int32.ofInt 1)), (7, .int (-1)), (6, .int ((nI m) * 366)), (4, .int 0), (3, .int 0), (0, .ref 125), (1, .int a1), (2, .int a2)]) rfl rfl rfl rfl rfl ?_
      refine x_goto (tgt := 14) rfl rfl ?_
      rw [jnI1 m]
      exact jX.less (by simp) (ih (m + 1) (by omega) _ ⟨(jFe_sa rfl rfl (jFe_sa rfl rfl F)), (jOl_si rfl (jOl_si rfl O)), (fun j hj => (iv_si rfl (jarr1 hm (fun j hj => SB j hj) j hj))), (fun j hj => (jarr1 hm (fun j hj => (iv_si rfl (PI j hj))) j hj))⟩)
set_option maxRecDepth 100000 in
set_option maxHeartbeats 40000000 in
theorem c_findTurns {a1 a2 : Int32} {xs : Nat → Int32} {h : jH} {Q : Option Value → jH → Prop} (ha : 0 ≤ a2.toInt ∧ a2.toInt ≤ 399) (F : jFe jXIm jXAm 125 h) (O : jOl 7 xs h) (hQ : ∀ h' (m : Nat), (m : Int) = a2.toInt + 1 → jTm xs m h' → Q none h') : jC m_X12_findTurns 99 0 0 [.ref 125, .int a1, .int a2] h Q := by
  refine jC.of rfl k_X12_findTurns rfl ?_
  show jX m_X12_findTurns 99 0 0 0 [(0, .ref 125), (1, .int a1), (2, .int a2)] [] _ 0 0 _
  refine x_aloadn (x := 125) rfl rfl ?_
  refine x_getR (b := 126) 12 2 rfl f_12_8 rfl (congrArg Prod.fst (F.1 125 (12, 92) rfl rfl)) (F.2.1 16002 126 rfl rfl) ?_
  refine x_bipush (v := 7) rfl kb_7 ?_
  refine y_iald (v := 0) (N := 50660) 7 rfl (F.1 126 (100, 50660) rfl rfl) (jinb_of (by decide)) (by decide) (F.2.2.2.1 126 rfl rfl rfl 7).1 ?_
  refine x_istoren (ls' := [(3, .int 0), (0, .ref 125), (1, .int a1), (2, .int a2)]) rfl rfl rfl ?_
  refine x_iconst (v := 0) rfl ki_0 ?_
  refine x_istore (ls' := [(4, .int 0), (3, .int 0), (0, .ref 125), (1, .int a1), (2, .int a2)]) rfl rfl rfl ?_
  refine x_iconst (v := 0) rfl ki_0 ?_
  refine x_istore (ls' := [(5, .int 0), (4, .int 0), (3, .int 0), (0, .ref 125), (1, .int a1), (2, .int a2)]) rfl rfl rfl ?_
  exact mt_ft ha (fun m h e T => hQ h m e T) (a2.toInt + 1).toNat 0 (by omega) _ ⟨F, O, jarr0, jarr0⟩
set_option maxRecDepth 100000 in
set_option maxHeartbeats 40000000 in
theorem pm_turn (a1 a2 a3 a4 : Int32) {xs : Nat → Int32} {h : jH} {Q : Option Value → jH → Prop} (F : jFb 125 h) (O : jOl 7 xs h) (hQ : ∀ h', jOl 7 xs h' → Q (some (.int (sp_turn a1 a2 a3 a4))) h') : jC m_X12_turn 100 0 0 [.ref 125, .int a1, .int a2, .int a3, .int a4] h Q := by
  refine jC.of rfl k_X12_turn rfl ?_
  show jX m_X12_turn 100 0 0 0 [(0, .ref 125), (1, .int a1), (2, .int a2), (3, .int a3), (4, .int a4)] [] _ 0 0 _
  refine x_aloadn (x := 125) rfl rfl ?_
  refine x_iconst (v := 0) rfl ki_0 ?_
  refine x_putI 12 0 rfl f_12_180 rfl (jfin_no TX12 RX12 92 rfl rfl) (congrArg Prod.fst (F.1 125 (12, 92) rfl rfl)) rfl ?_
  refine x_iloadn (x := a1) rfl rfl ?_
  refine x_i2l rfl ?_
  refine x_lconst (v := 0) rfl kl_0 ?_
  refine x_ldc2 (v := 3) rfl z_12_195 ?_
  refine x_inst (N := m_X12_in) (As := [.long (a1.toInt64), .long 0, .long 3]) (st := []) (d' := 99) (mc := 0) (ms := 0) (host := "") rfl t_X12_in ⟨Or.inl q_12_188, s_X12_in⟩ rfl (by decide) rfl rfl ⟨by decide, by decide⟩ (c_X12_in (m := a1.toInt) (a := 0) (b := 3) (jt_l _) (by decide) (by decide) ?_)
  show jX m_X12_turn 100 0 0 14 [(0, .ref 125), (1, .int a1), (2, .int a2), (3, .int a3), (4, .int a4)] [.int (jp (0 ≤ a1.toInt ∧ a1.toInt ≤ 3))] _ 0 0 _
  refine x_ifeq (tgt := 44) rfl rfl (jpe ⟨fun c1 => ?_, fun c1 => ?_⟩)
  ·
    refine x_iconst (v := (-1)) rfl ki_m1 ?_
    refine x_iret rfl rfl ?_
    exact jqe (show sp_turn a1 a2 a3 a4 = (-1) by unfold sp_turn; (repeat' split) <;> first | rfl | (exfalso; omega)) (hQ _ (jOl_si rfl O))
  ·
    refine x_iloadn (x := a2) rfl rfl ?_
    refine x_inst (N := m_X12_isYear) (As := [.int a2]) (st := []) (d' := 99) (mc := 0) (ms := 0) (host := "") rfl t_X12_isYear ⟨Or.inl q_12_817, s_X12_isYear⟩ rfl (by decide) rfl rfl ⟨by decide, by decide⟩ (c_X12_isYear (x := a2) ?_)
    show jX m_X12_turn 100 0 0 21 [(0, .ref 125), (1, .int a1), (2, .int a2), (3, .int a3), (4, .int a4)] [.int (jp (0 ≤ a2.toInt ∧ a2.toInt ≤ 399))] _ 0 0 _
    refine x_ifeq (tgt := 44) rfl rfl (jpe ⟨fun c2 => ?_, fun c2 => ?_⟩)
    ·
      refine x_iconst (v := (-1)) rfl ki_m1 ?_
      refine x_iret rfl rfl ?_
      exact jqe (show sp_turn a1 a2 a3 a4 = (-1) by unfold sp_turn; (repeat' split) <;> first | rfl | (exfalso; omega)) (hQ _ (jOl_si rfl O))
    ·
      refine x_iloadn (x := a3) rfl rfl ?_
      refine x_inst (N := m_X12_isDay) (As := [.int a3]) (st := []) (d' := 99) (mc := 0) (ms := 0) (host := "") rfl t_X12_isDay ⟨Or.inl q_12_273, s_X12_isDay⟩ rfl (by decide) rfl rfl ⟨by decide, by decide⟩ (c_X12_isDay (x := a3) ?_)
      show jX m_X12_turn 100 0 0 28 [(0, .ref 125), (1, .int a1), (2, .int a2), (3, .int a3), (4, .int a4)] [.int (jp (0 ≤ a3.toInt ∧ a3.toInt ≤ 146399))] _ 0 0 _
      refine x_ifeq (tgt := 44) rfl rfl (jpe ⟨fun c3 => ?_, fun c3 => ?_⟩)
      ·
        refine x_iconst (v := (-1)) rfl ki_m1 ?_
        refine x_iret rfl rfl ?_
        exact jqe (show sp_turn a1 a2 a3 a4 = (-1) by unfold sp_turn; (repeat' split) <;> first | rfl | (exfalso; omega)) (hQ _ (jOl_si rfl O))
      ·
        refine x_iload (x := a4) rfl rfl ?_
        refine x_i2l rfl ?_
        refine x_lconst (v := 0) rfl kl_0 ?_
        refine x_ldc2 (v := 2) rfl z_12_482 ?_
        refine x_inst (N := m_X12_in) (As := [.long (a4.toInt64), .long 0, .long 2]) (st := []) (d' := 99) (mc := 0) (ms := 0) (host := "") rfl t_X12_in ⟨Or.inl q_12_188, s_X12_in⟩ rfl (by decide) rfl rfl ⟨by decide, by decide⟩ (c_X12_in (m := a4.toInt) (a := 0) (b := 2) (jt_l _) (by decide) (by decide) ?_)
        show jX m_X12_turn 100 0 0 41 [(0, .ref 125), (1, .int a1), (2, .int a2), (3, .int a3), (4, .int a4)] [.int (jp (0 ≤ a4.toInt ∧ a4.toInt ≤ 2))] _ 0 0 _
        refine x_ifne (tgt := 46) rfl rfl (jpn ⟨fun c4 => ?_, fun c4 => ?_⟩)
        ·
          refine x_aloadn (x := 125) rfl rfl ?_
          refine x_iloadn (x := a3) rfl rfl ?_
          refine x_inv (N := m_X12_find) (As := [.int a3]) (b := 125) (st := []) (d' := 99) (mc := 0) (ms := 0) (host := "") 12 rfl t_X12_find ⟨Or.inl q_12_393, i_X12_find.1, i_X12_find.2⟩ ⟨by decide, rfl⟩ (congrArg Prod.fst (sh_si (F.1 125 (12, 92) rfl rfl))) rfl (by decide) rfl rfl ⟨by decide, by decide⟩ (jC.of rfl k_X12_find rfl ?_)
          show jX m_X12_find 99 0 0 0 [(0, .ref 125), (1, .int a3)] [] _ 0 0 _
          refine x_aloadn (x := 125) rfl rfl ?_
          refine x_iloadn (x := a3) rfl rfl ?_
          refine x_putI 12 28 rfl f_12_377 rfl (jfin_no TX12 RX12 92 rfl rfl) (congrArg Prod.fst (sh_si (F.1 125 (12, 92) rfl rfl))) rfl ?_
          refine x_aloadn (x := 125) rfl rfl ?_
          refine x_iconst (v := 0) rfl ki_0 ?_
          refine x_putI 12 31 rfl f_12_380 rfl (jfin_no TX12 RX12 92 rfl rfl) (congrArg Prod.fst (sh_si (sh_si (F.1 125 (12, 92) rfl rfl)))) rfl ?_
          refine x_aloadn (x := 125) rfl rfl ?_
          refine x_iconst (v := (-1)) rfl ki_m1 ?_
          refine x_putI 12 57 rfl f_12_111 rfl (jfin_no TX12 RX12 92 rfl rfl) (congrArg Prod.fst (sh_si (sh_si (sh_si (F.1 125 (12, 92) rfl rfl))))) rfl ?_
          refine x_iconst (v := 0) rfl ki_0 ?_
          refine x_istoren (ls' := [(2, .int 0), (0, .ref 125), (1, .int a3)]) rfl rfl rfl ?_
          refine x_iloadn (x := 0) rfl rfl ?_
          refine x_iconst (v := 3) rfl ki_3 ?_
          refine x_aloadn (x := 125) rfl rfl ?_
          refine x_getR (b := 126) 12 2 rfl f_12_8 rfl (congrArg Prod.fst (sh_si (sh_si (sh_si (sh_si (F.1 125 (12, 92) rfl rfl)))))) (rv_si (rv_si (rv_si (rv_si (F.2.1 16002 126 rfl rfl))))) ?_
          refine x_iconst (v := 0) rfl ki_0 ?_
          refine y_iald (v := 0) (N := 50660) 0 rfl (sh_si (sh_si (sh_si (sh_si (F.1 126 (100, 50660) rfl rfl))))) (jinb_of (by decide)) (by decide) (iv_si rfl (iv_si rfl (iv_si rfl (iv_si rfl (F.2.2.2.1 126 rfl rfl 0).1)))) ?_
          refine y_imul (v := 0) rfl (by decide) ?_
          refine x_icge (tgt := 65) rfl rfl (br_t (by decide) ?_)
          refine x_iconst (v := 0) rfl ki_0 ?_
          refine x_istoren (ls' := [(2, .int 0), (0, .ref 125), (1, .int a3)]) rfl rfl rfl ?_
          refine x_iloadn (x := 0) rfl rfl ?_
          refine x_aloadn (x := 125) rfl rfl ?_
          refine x_getR (b := 126) 12 2 rfl f_12_8 rfl (congrArg Prod.fst (sh_si (sh_si (sh_si (sh_si (F.1 125 (12, 92) rfl rfl)))))) (rv_si (rv_si (rv_si (rv_si (F.2.1 16002 126 rfl rfl))))) ?_
          refine x_iconst (v := 2) rfl ki_2 ?_
          refine y_iald (v := 0) (N := 50660) 2 rfl (sh_si (sh_si (sh_si (sh_si (F.1 126 (100, 50660) rfl rfl))))) (jinb_of (by decide)) (by decide) (iv_si rfl (iv_si rfl (iv_si rfl (iv_si rfl (F.2.2.2.1 126 rfl rfl 2).1)))) ?_
          refine x_icge (tgt := 227) rfl rfl (br_t (by decide) ?_)
          refine x_vret rfl rfl ?_
          show jX m_X12_turn 100 0 0 51 [(0, .ref 125), (1, .int a1), (2, .int a2), (3, .int a3), (4, .int a4)] [] _ 0 0 _
          refine x_aloadn (x := 125) rfl rfl ?_
          refine x_iloadn (x := a1) rfl rfl ?_
          refine x_iloadn (x := a2) rfl rfl ?_
          refine x_inv (N := m_X12_findTurns) (As := [.int a1, .int a2]) (b := 125) (st := []) (d' := 99) (mc := 0) (ms := 0) (host := "") 12 rfl t_X12_findTurns ⟨Or.inl q_12_838, i_X12_findTurns.1, i_X12_findTurns.2⟩ ⟨by decide, rfl⟩ (congrArg Prod.fst (sh_si (sh_si (sh_si (sh_si (F.1 125 (12, 92) rfl rfl)))))) rfl (by decide) rfl rfl ⟨by decide, by decide⟩ (c_findTurns (by omega) (jFe_sf rfl rfl rfl (jFe_sf rfl rfl rfl (jFe_sf rfl rfl rfl (jFe_sf rfl rfl rfl (jFe_of F))))) (jOl_si rfl (jOl_si rfl (jOl_si rfl (jOl_si rfl O)))) ?_)
          intro h2 m e2 T2
          obtain ⟨F2, O2, SB, PI⟩ := T2
          show jX m_X12_turn 100 0 0 57 [(0, .ref 125), (1, .int a1), (2, .int a2), (3, .int a3), (4, .int a4)] [] _ 0 0 _
          refine x_iload (x := a4) rfl rfl ?_
          refine x_iconst (v := 2) rfl ki_2 ?_
          refine x_icge (tgt := 84) rfl rfl (ti_ge (show (a4 : Int32).toInt = a4.toInt from rfl) (show (2 : Int32).toInt = 2 by decide) ⟨fun c5 => ?_, fun c5 => ?_⟩)
          ·
            refine x_iconst (v := 0) rfl ki_0 ?_
            refine x_istore (ls' := [(5, .int 0), (0, .ref 125), (1, .int a1), (2, .int a2), (3, .int a3), (4, .int a4)]) rfl rfl rfl ?_
            refine x_sipush (v := 1000) rfl ks_1000 ?_
            refine x_istore (ls' := [(6, .int 1000), (5, .int 0), (0, .ref 125), (1, .int a1), (2, .int a2), (3, .int a3), (4, .int a4)]) rfl rfl rfl ?_
            refine x_iconst (v := 0) rfl ki_0 ?_
            refine x_istore (ls' := [(7, .int 0), (6, .int 1000), (5, .int 0), (0, .ref 125), (1, .int a1), (2, .int a2), (3, .int a3), (4, .int a4)]) rfl rfl rfl ?_
            refine x_iload (x := 0) rfl rfl ?_
            refine x_aloadn (x := 125) rfl rfl ?_
            refine x_getR (b := 126) 12 2 rfl f_12_8 rfl (congrArg Prod.fst (F2.1 125 (12, 92) rfl rfl)) (F2.2.1 16002 126 rfl rfl) ?_
            refine x_bipush (v := 7) rfl kb_7 ?_
            refine y_iald (v := 0) (N := 50660) 7 rfl (F2.1 126 (100, 50660) rfl rfl) (jinb_of (by decide)) (by decide) (F2.2.2.2.1 126 rfl rfl rfl 7).1 ?_
            refine x_icge (tgt := 171) rfl rfl (br_t (by decide) ?_)
            refine x_aloadn (x := 125) rfl rfl ?_
            refine x_getR (b := 126) 12 2 rfl f_12_8 rfl (congrArg Prod.fst (F2.1 125 (12, 92) rfl rfl)) (F2.2.1 16002 126 rfl rfl) ?_
            refine x_bipush (v := 7) rfl kb_7 ?_
            refine y_iald (v := 0) (N := 50660) 7 rfl (F2.1 126 (100, 50660) rfl rfl) (jinb_of (by decide)) (by decide) (F2.2.2.2.1 126 rfl rfl rfl 7).1 ?_
            refine x_ifne (tgt := 185) rfl rfl (bn_f (by decide) ?_)
            refine x_iconst (v := 0) rfl ki_0 ?_
            refine x_goto (tgt := 190) rfl rfl ?_
            refine x_iret rfl rfl ?_
            exact jqe (show sp_turn a1 a2 a3 a4 = 0 by unfold sp_turn; (repeat' split) <;> first | rfl | (exfalso; omega)) (hQ _ O2)
          ·
            refine x_iload (x := a4) rfl rfl ?_
            refine x_ifne (tgt := 77) rfl rfl (ti_ne (show (a4 : Int32).toInt = a4.toInt from rfl) (show (0 : Int32).toInt = 0 by decide) ⟨fun c6 => ?_, fun c6 => ?_⟩)
            ·
              refine x_aloadn (x := 125) rfl rfl ?_
              refine x_getR (b := 169) 12 84 rfl f_12_165 rfl (congrArg Prod.fst (F2.1 125 (12, 92) rfl rfl)) (F2.2.1 16084 169 rfl rfl) ?_
              refine x_iloadn (x := a2) rfl rfl ?_
              refine y_iald (v := 0) (N := 400) a2.toNatClampNeg rfl (F2.1 169 (100, 400) rfl rfl) (vpi (by omega)) rfl (PI _ (jclt (by omega))) ?_
              refine x_iret rfl rfl ?_
              exact jqe (show sp_turn a1 a2 a3 a4 = 0 by unfold sp_turn; (repeat' split) <;> first | rfl | (exfalso; omega)) (hQ _ O2)
            ·
              refine x_aloadn (x := 125) rfl rfl ?_
              refine x_getR (b := 168) 12 83 rfl f_12_162 rfl (congrArg Prod.fst (F2.1 125 (12, 92) rfl rfl)) (F2.2.1 16083 168 rfl rfl) ?_
              refine x_iloadn (x := a2) rfl rfl ?_
              refine y_iald (v := (-1)) (N := 400) a2.toNatClampNeg rfl (F2.1 168 (100, 400) rfl rfl) (vpi (by omega)) rfl (SB _ (jclt (by omega))) ?_
              refine x_goto (tgt := 83) rfl rfl ?_
              refine x_iret rfl rfl ?_
              exact jqe (show sp_turn a1 a2 a3 a4 = (-1) by unfold sp_turn; (repeat' split) <;> first | rfl | (exfalso; omega)) (hQ _ O2)
        ·
          refine x_iconst (v := (-1)) rfl ki_m1 ?_
          refine x_iret rfl rfl ?_
          exact jqe (show sp_turn a1 a2 a3 a4 = (-1) by unfold sp_turn; (repeat' split) <;> first | rfl | (exfalso; omega)) (hQ _ (jOl_si rfl O))
