def sp_feed (a1 a2 a3 a4 a5 : Int32) : Int32 := 20
set_option maxRecDepth 100000 in
set_option maxHeartbeats 40000000 in
theorem px_feed (a1 a2 a3 a4 a5 : Int32) {xs : Nat → Int32} {h : jH} {Q : Option Value → jH → Prop} (F : jFb 31 h) (O : jOl 7 xs h) (hQ : ∀ h', jFb 125 h' → jOl 7 xs h' → Q (some (.int (sp_feed a1 a2 a3 a4 a5))) h') : jC m_X11_feed 100 0 0 [.ref 31, .int a1, .int a2, .int a3, .int a4, .int a5] h Q := by
  have FM := jFb_up 125 rfl F
  refine jC.of rfl k_X11_feed rfl ?_
  show jX m_X11_feed 100 0 0 0 [(0, .ref 31), (1, .int a1), (2, .int a2), (3, .int a3), (4, .int a4), (5, .int a5)] [] _ 0 0 _
  refine x_aloadn (x := 31) rfl rfl ?_
  refine x_getR (b := 68) 11 2 rfl f_11_23 rfl (congrArg Prod.fst (F.1 31 (11, 13) rfl rfl)) (F.2.1 3970 68 rfl rfl) ?_
  refine x_bipush (v := 20) rfl kb_20 ?_
  refine x_inv (N := m_X9_hasRoomFor) (As := [.int 20]) (b := 68) (st := []) (d' := 99) (mc := 0) (ms := 0) (host := "") 9 rfl t_X9_hasRoomFor ⟨Or.inl q_11_98, i_X9_hasRoomFor.1, i_X9_hasRoomFor.2⟩ ⟨by decide, rfl⟩ (congrArg Prod.fst (F.1 68 (9, 6) rfl rfl)) rfl (by decide) rfl rfl ⟨by decide, by decide⟩ (jC.of rfl k_X9_hasRoomFor rfl ?_)
  show jX m_X9_hasRoomFor 99 0 0 0 [(0, .ref 68), (1, .int 20)] [] _ 0 0 _
  refine x_aloadn (x := 68) rfl rfl ?_
  refine y_getI (v := 0) 9 1 rfl f_9_15 rfl (congrArg Prod.fst (F.1 68 (9, 6) rfl rfl)) (F.2.2.1 8705 0 rfl rfl) ?_
  refine x_iloadn (x := 20) rfl rfl ?_
  refine y_iadd (v := 20) rfl (by decide) ?_
  refine x_sipush (v := 400) rfl ks_400 ?_
  refine x_icgt (tgt := 16) rfl rfl (br_f (by decide) ?_)
  refine x_iconst (v := 1) rfl ki_1 ?_
  refine x_goto (tgt := 17) rfl rfl ?_
  refine x_zret rfl rfl (by first | decide | exact jp_01 _) ?_
  show jX m_X11_feed 100 0 0 9 [(0, .ref 31), (1, .int a1), (2, .int a2), (3, .int a3), (4, .int a4), (5, .int a5)] [.int 1] _ 0 0 _
  refine x_ifne (tgt := 14) rfl rfl (bn_t (by decide) ?_)
  refine x_aloadn (x := 31) rfl rfl ?_
  refine x_getR (b := 68) 11 2 rfl f_11_23 rfl (congrArg Prod.fst (F.1 31 (11, 13) rfl rfl)) (F.2.1 3970 68 rfl rfl) ?_
  refine x_iloadn (x := a1) rfl rfl ?_
  refine x_inv (N := m_X9_append) (As := [.int a1]) (b := 68) (st := []) (d' := 99) (mc := 0) (ms := 0) (host := "") 9 rfl t_X9_append ⟨Or.inl q_11_102, i_X9_append.1, i_X9_append.2⟩ ⟨by decide, rfl⟩ (congrArg Prod.fst (F.1 68 (9, 6) rfl rfl)) rfl (by decide) rfl rfl ⟨by decide, by decide⟩ (jC.of rfl k_X9_append rfl ?_)
  show jX m_X9_append 99 0 0 0 [(0, .ref 68), (1, .int a1)] [] _ 0 0 _
  refine x_bipush (v := 24) rfl kb_24 ?_
  refine x_istoren (ls' := [(2, .int 24), (0, .ref 68), (1, .int a1)]) rfl rfl rfl ?_
  refine x_iloadn (x := 24) rfl rfl ?_
  refine x_iflt (tgt := 49) rfl rfl (br_f (by decide) ?_)
  refine x_aloadn (x := 68) rfl rfl ?_
  refine y_getI (v := 0) 9 1 rfl f_9_15 rfl (congrArg Prod.fst (F.1 68 (9, 6) rfl rfl)) (F.2.2.1 8705 0 rfl rfl) ?_
  refine x_sipush (v := 400) rfl ks_400 ?_
  refine x_icge (tgt := 49) rfl rfl (br_f (by decide) ?_)
  refine x_aloadn (x := 68) rfl rfl ?_
  refine x_getR (b := 69) 9 0 rfl f_9_11 rfl (congrArg Prod.fst (F.1 68 (9, 6) rfl rfl)) (F.2.1 8704 69 rfl rfl) ?_
  refine x_aloadn (x := 68) rfl rfl ?_
  refine y_getI (v := 0) 9 1 rfl f_9_15 rfl (congrArg Prod.fst (F.1 68 (9, 6) rfl rfl)) (F.2.2.1 8705 0 rfl rfl) ?_
  refine x_iloadn (x := a1) rfl rfl ?_
  refine x_iloadn (x := 24) rfl rfl ?_
  refine x_iushr rfl ?_
  refine x_sipush (v := 255) rfl ks_255 ?_
  refine x_iand rfl ?_
  refine y_iast (N := 400) 0 rfl (F.1 69 (100, 400) rfl rfl) rfl (jinb_of (by decide)) (by decide) ?_
  refine x_aloadn (x := 68) rfl rfl ?_
  refine x_dup rfl rfl ?_
  refine y_getI (v := 0) 9 1 rfl f_9_15 rfl (congrArg Prod.fst (sh_si (F.1 68 (9, 6) rfl rfl))) (iv_si rfl (F.2.2.1 8705 0 rfl rfl)) ?_
  refine x_iconst (v := 1) rfl ki_1 ?_
  refine y_iadd (v := 1) rfl (by decide) ?_
  refine x_putI 9 1 rfl f_9_15 rfl (jfin_no TX9 RX9 6 rfl rfl) (congrArg Prod.fst (sh_si (F.1 68 (9, 6) rfl rfl))) rfl ?_
  refine x_iinc (x := 24) (v := 16) (ls' := [(2, .int 16), (0, .ref 68), (1, .int a1)]) rfl rfl (by decide) rfl rfl ?_
  refine x_goto (tgt := 3) rfl rfl ?_
  refine x_iloadn (x := 16) rfl rfl ?_
  refine x_iflt (tgt := 49) rfl rfl (br_f (by decide) ?_)
  refine x_aloadn (x := 68) rfl rfl ?_
  refine y_getI (v := 1) 9 1 rfl f_9_15 rfl (congrArg Prod.fst (sh_si (sh_si (F.1 68 (9, 6) rfl rfl)))) iv_eq ?_
  refine x_sipush (v := 400) rfl ks_400 ?_
  refine x_icge (tgt := 49) rfl rfl (br_f (by decide) ?_)
  refine x_aloadn (x := 68) rfl rfl ?_
  refine x_getR (b := 69) 9 0 rfl f_9_11 rfl (congrArg Prod.fst (sh_si (sh_si (F.1 68 (9, 6) rfl rfl)))) (rv_si (rv_si (F.2.1 8704 69 rfl rfl))) ?_
  refine x_aloadn (x := 68) rfl rfl ?_
  refine y_getI (v := 1) 9 1 rfl f_9_15 rfl (congrArg Prod.fst (sh_si (sh_si (F.1 68 (9, 6) rfl rfl)))) iv_eq ?_
  refine x_iloadn (x := a1) rfl rfl ?_
  refine x_iloadn (x := 16) rfl rfl ?_
  refine x_iushr rfl ?_
  refine x_sipush (v := 255) rfl ks_255 ?_
  refine x_iand rfl ?_
  refine y_iast (N := 400) 1 rfl (sh_si (sh_si (F.1 69 (100, 400) rfl rfl))) rfl (jinb_of (by decide)) (by decide) ?_
  refine x_aloadn (x := 68) rfl rfl ?_
  refine x_dup rfl rfl ?_
  refine y_getI (v := 1) 9 1 rfl f_9_15 rfl (congrArg Prod.fst (sh_si (sh_si (sh_si (F.1 68 (9, 6) rfl rfl))))) (iv_si rfl iv_eq) ?_
  refine x_iconst (v := 1) rfl ki_1 ?_
  refine y_iadd (v := 2) rfl (by decide) ?_
  refine x_putI 9 1 rfl f_9_15 rfl (jfin_no TX9 RX9 6 rfl rfl) (congrArg Prod.fst (sh_si (sh_si (sh_si (F.1 68 (9, 6) rfl rfl))))) rfl ?_
  refine x_iinc (x := 16) (v := 8) (ls' := [(2, .int 8), (0, .ref 68), (1, .int a1)]) rfl rfl (by decide) rfl rfl ?_
  refine x_goto (tgt := 3) rfl rfl ?_
  refine x_iloadn (x := 8) rfl rfl ?_
  refine x_iflt (tgt := 49) rfl rfl (br_f (by decide) ?_)
  refine x_aloadn (x := 68) rfl rfl ?_
  refine y_getI (v := 2) 9 1 rfl f_9_15 rfl (congrArg Prod.fst (sh_si (sh_si (sh_si (sh_si (F.1 68 (9, 6) rfl rfl)))))) iv_eq ?_
  refine x_sipush (v := 400) rfl ks_400 ?_
  refine x_icge (tgt := 49) rfl rfl (br_f (by decide) ?_)
  refine x_aloadn (x := 68) rfl rfl ?_
  refine x_getR (b := 69) 9 0 rfl f_9_11 rfl (congrArg Prod.fst (sh_si (sh_si (sh_si (sh_si (F.1 68 (9, 6) rfl rfl)))))) (rv_si (rv_si (rv_si (rv_si (F.2.1 8704 69 rfl rfl))))) ?_
  refine x_aloadn (x := 68) rfl rfl ?_
  refine y_getI (v := 2) 9 1 rfl f_9_15 rfl (congrArg Prod.fst (sh_si (sh_si (sh_si (sh_si (F.1 68 (9, 6) rfl rfl)))))) iv_eq ?_
  refine x_iloadn (x := a1) rfl rfl ?_
  refine x_iloadn (x := 8) rfl rfl ?_
  refine x_iushr rfl ?_
  refine x_sipush (v := 255) rfl ks_255 ?_
  refine x_iand rfl ?_
  refine y_iast (N := 400) 2 rfl (sh_si (sh_si (sh_si (sh_si (F.1 69 (100, 400) rfl rfl))))) rfl (jinb_of (by decide)) (by decide) ?_
  refine x_aloadn (x := 68) rfl rfl ?_
  refine x_dup rfl rfl ?_
  refine y_getI (v := 2) 9 1 rfl f_9_15 rfl (congrArg Prod.fst (sh_si (sh_si (sh_si (sh_si (sh_si (F.1 68 (9, 6) rfl rfl))))))) (iv_si rfl iv_eq) ?_
  refine x_iconst (v := 1) rfl ki_1 ?_
  refine y_iadd (v := 3) rfl (by decide) ?_
  refine x_putI 9 1 rfl f_9_15 rfl (jfin_no TX9 RX9 6 rfl rfl) (congrArg Prod.fst (sh_si (sh_si (sh_si (sh_si (sh_si (F.1 68 (9, 6) rfl rfl))))))) rfl ?_
  refine x_iinc (x := 8) (v := 0) (ls' := [(2, .int 0), (0, .ref 68), (1, .int a1)]) rfl rfl (by decide) rfl rfl ?_
  refine x_goto (tgt := 3) rfl rfl ?_
  refine x_iloadn (x := 0) rfl rfl ?_
  refine x_iflt (tgt := 49) rfl rfl (br_f (by decide) ?_)
  refine x_aloadn (x := 68) rfl rfl ?_
  refine y_getI (v := 3) 9 1 rfl f_9_15 rfl (congrArg Prod.fst (sh_si (sh_si (sh_si (sh_si (sh_si (sh_si (F.1 68 (9, 6) rfl rfl)))))))) iv_eq ?_
  refine x_sipush (v := 400) rfl ks_400 ?_
  refine x_icge (tgt := 49) rfl rfl (br_f (by decide) ?_)
  refine x_aloadn (x := 68) rfl rfl ?_
  refine x_getR (b := 69) 9 0 rfl f_9_11 rfl (congrArg Prod.fst (sh_si (sh_si (sh_si (sh_si (sh_si (sh_si (F.1 68 (9, 6) rfl rfl)))))))) (rv_si (rv_si (rv_si (rv_si (rv_si (rv_si (F.2.1 8704 69 rfl rfl))))))) ?_
  refine x_aloadn (x := 68) rfl rfl ?_
  refine y_getI (v := 3) 9 1 rfl f_9_15 rfl (congrArg Prod.fst (sh_si (sh_si (sh_si (sh_si (sh_si (sh_si (F.1 68 (9, 6) rfl rfl)))))))) iv_eq ?_
  refine x_iloadn (x := a1) rfl rfl ?_
  refine x_iloadn (x := 0) rfl rfl ?_
  refine x_iushr rfl ?_
  refine x_sipush (v := 255) rfl ks_255 ?_
  refine x_iand rfl ?_
  refine y_iast (N := 400) 3 rfl (sh_si (sh_si (sh_si (sh_si (sh_si (sh_si (F.1 69 (100, 400) rfl rfl))))))) rfl (jinb_of (by decide)) (by decide) ?_
  refine x_aloadn (x := 68) rfl rfl ?_
  refine x_dup rfl rfl ?_
  refine y_getI (v := 3) 9 1 rfl f_9_15 rfl (congrArg Prod.fst (sh_si (sh_si (sh_si (sh_si (sh_si (sh_si (sh_si (F.1 68 (9, 6) rfl rfl))))))))) (iv_si rfl iv_eq) ?_
  refine x_iconst (v := 1) rfl ki_1 ?_
  refine y_iadd (v := 4) rfl (by decide) ?_
  refine x_putI 9 1 rfl f_9_15 rfl (jfin_no TX9 RX9 6 rfl rfl) (congrArg Prod.fst (sh_si (sh_si (sh_si (sh_si (sh_si (sh_si (sh_si (F.1 68 (9, 6) rfl rfl))))))))) rfl ?_
  refine x_iinc (x := 0) (v := (-8)) (ls' := [(2, .int (-8)), (0, .ref 68), (1, .int a1)]) rfl rfl (by decide) rfl rfl ?_
  refine x_goto (tgt := 3) rfl rfl ?_
  refine x_iloadn (x := (-8)) rfl rfl ?_
  refine x_iflt (tgt := 49) rfl rfl (br_t (by decide) ?_)
  refine x_vret rfl rfl ?_
  show jX m_X11_feed 100 0 0 22 [(0, .ref 31), (1, .int a1), (2, .int a2), (3, .int a3), (4, .int a4), (5, .int a5)] [] _ 0 0 _
  refine x_aloadn (x := 31) rfl rfl ?_
  refine x_getR (b := 68) 11 2 rfl f_11_23 rfl (congrArg Prod.fst (sh_si (sh_si (sh_si (sh_si (sh_si (sh_si (sh_si (sh_si (F.1 31 (11, 13) rfl rfl)))))))))) (rv_si (rv_si (rv_si (rv_si (rv_si (rv_si (rv_si (rv_si (F.2.1 3970 68 rfl rfl))))))))) ?_
  refine x_iloadn (x := a2) rfl rfl ?_
  refine x_inv (N := m_X9_append) (As := [.int a2]) (b := 68) (st := []) (d' := 99) (mc := 0) (ms := 0) (host := "") 9 rfl t_X9_append ⟨Or.inl q_11_102, i_X9_append.1, i_X9_append.2⟩ ⟨by decide, rfl⟩ (congrArg Prod.fst (sh_si (sh_si (sh_si (sh_si (sh_si (sh_si (sh_si (sh_si (F.1 68 (9, 6) rfl rfl)))))))))) rfl (by decide) rfl rfl ⟨by decide, by decide⟩ (jC.of rfl k_X9_append rfl ?_)
  show jX m_X9_append 99 0 0 0 [(0, .ref 68), (1, .int a2)] [] _ 0 0 _
  refine x_bipush (v := 24) rfl kb_24 ?_
  refine x_istoren (ls' := [(2, .int 24), (0, .ref 68), (1, .int a2)]) rfl rfl rfl ?_
  refine x_iloadn (x := 24) rfl rfl ?_
  refine x_iflt (tgt := 49) rfl rfl (br_f (by decide) ?_)
  refine x_aloadn (x := 68) rfl rfl ?_
  refine y_getI (v := 4) 9 1 rfl f_9_15 rfl (congrArg Prod.fst (sh_si (sh_si (sh_si (sh_si (sh_si (sh_si (sh_si (sh_si (F.1 68 (9, 6) rfl rfl)))))))))) iv_eq ?_
  refine x_sipush (v := 400) rfl ks_400 ?_
  refine x_icge (tgt := 49) rfl rfl (br_f (by decide) ?_)
  refine x_aloadn (x := 68) rfl rfl ?_
  refine x_getR (b := 69) 9 0 rfl f_9_11 rfl (congrArg Prod.fst (sh_si (sh_si (sh_si (sh_si (sh_si (sh_si (sh_si (sh_si (F.1 68 (9, 6) rfl rfl)))))))))) (rv_si (rv_si (rv_si (rv_si (rv_si (rv_si (rv_si (rv_si (F.2.1 8704 69 rfl rfl))))))))) ?_
  refine x_aloadn (x := 68) rfl rfl ?_
  refine y_getI (v := 4) 9 1 rfl f_9_15 rfl (congrArg Prod.fst (sh_si (sh_si (sh_si (sh_si (sh_si (sh_si (sh_si (sh_si (F.1 68 (9, 6) rfl rfl)))))))))) iv_eq ?_
  refine x_iloadn (x := a2) rfl rfl ?_
  refine x_iloadn (x := 24) rfl rfl ?_
  refine x_iushr rfl ?_
  refine x_sipush (v := 255) rfl ks_255 ?_
  refine x_iand rfl ?_
  refine y_iast (N := 400) 4 rfl (sh_si (sh_si (sh_si (sh_si (sh_si (sh_si (sh_si (sh_si (F.1 69 (100, 400) rfl rfl))))))))) rfl (jinb_of (by decide)) (by decide) ?_
  refine x_aloadn (x := 68) rfl rfl ?_
  refine x_dup rfl rfl ?_
  refine y_getI (v := 4) 9 1 rfl f_9_15 rfl (congrArg Prod.fst (sh_si (sh_si (sh_si (sh_si (sh_si (sh_si (sh_si (sh_si (sh_si (F.1 68 (9, 6) rfl rfl))))))))))) (iv_si rfl iv_eq) ?_
  refine x_iconst (v := 1) rfl ki_1 ?_
  refine y_iadd (v := 5) rfl (by decide) ?_
  refine x_putI 9 1 rfl f_9_15 rfl (jfin_no TX9 RX9 6 rfl rfl) (congrArg Prod.fst (sh_si (sh_si (sh_si (sh_si (sh_si (sh_si (sh_si (sh_si (sh_si (F.1 68 (9, 6) rfl rfl))))))))))) rfl ?_
  refine x_iinc (x := 24) (v := 16) (ls' := [(2, .int 16), (0, .ref 68), (1, .int a2)]) rfl rfl (by decide) rfl rfl ?_
  refine x_goto (tgt := 3) rfl rfl ?_
  refine x_iloadn (x := 16) rfl rfl ?_
  refine x_iflt (tgt := 49) rfl rfl (br_f (by decide) ?_)
  refine x_aloadn (x := 68) rfl rfl ?_
  refine y_getI (v := 5) 9 1 rfl f_9_15 rfl (congrArg Prod.fst (sh_si (sh_si (sh_si (sh_si (sh_si (sh_si (sh_si (sh_si (sh_si (sh_si (F.1 68 (9, 6) rfl rfl)))))))))))) iv_eq ?_
  refine x_sipush (v := 400) rfl ks_400 ?_
  refine x_icge (tgt := 49) rfl rfl (br_f (by decide) ?_)
  refine x_aloadn (x := 68) rfl rfl ?_
  refine x_getR (b := 69) 9 0 rfl f_9_11 rfl (congrArg Prod.fst (sh_si (sh_si (sh_si (sh_si (sh_si (sh_si (sh_si (sh_si (sh_si (sh_si (F.1 68 (9, 6) rfl rfl)))))))))))) (rv_si (rv_si (rv_si (rv_si (rv_si (rv_si (rv_si (rv_si (rv_si (rv_si (F.2.1 8704 69 rfl rfl))))))))))) ?_
  refine x_aloadn (x := 68) rfl rfl ?_
  refine y_getI (v := 5) 9 1 rfl f_9_15 rfl (congrArg Prod.fst (sh_si (sh_si (sh_si (sh_si (sh_si (sh_si (sh_si (sh_si (sh_si (sh_si (F.1 68 (9, 6) rfl rfl)))))))))))) iv_eq ?_
  refine x_iloadn (x := a2) rfl rfl ?_
  refine x_iloadn (x := 16) rfl rfl ?_
  refine x_iushr rfl ?_
  refine x_sipush (v := 255) rfl ks_255 ?_
  refine x_iand rfl ?_
  refine y_iast (N := 400) 5 rfl (sh_si (sh_si (sh_si (sh_si (sh_si (sh_si (sh_si (sh_si (sh_si (sh_si (F.1 69 (100, 400) rfl rfl))))))))))) rfl (jinb_of (by decide)) (by decide) ?_
  refine x_aloadn (x := 68) rfl rfl ?_
  refine x_dup rfl rfl ?_
  refine y_getI (v := 5) 9 1 rfl f_9_15 rfl (congrArg Prod.fst (sh_si (sh_si (sh_si (sh_si (sh_si (sh_si (sh_si (sh_si (sh_si (sh_si (sh_si (F.1 68 (9, 6) rfl rfl))))))))))))) (iv_si rfl iv_eq) ?_
  refine x_iconst (v := 1) rfl ki_1 ?_
  refine y_iadd (v := 6) rfl (by decide) ?_
  refine x_putI 9 1 rfl f_9_15 rfl (jfin_no TX9 RX9 6 rfl rfl) (congrArg Prod.fst (sh_si (sh_si (sh_si (sh_si (sh_si (sh_si (sh_si (sh_si (sh_si (sh_si (sh_si (F.1 68 (9, 6) rfl rfl))))))))))))) rfl ?_
  refine x_iinc (x := 16) (v := 8) (ls' := [(2, .int 8), (0, .ref 68), (1, .int a2)]) rfl rfl (by decide) rfl rfl ?_
  refine x_goto (tgt := 3) rfl rfl ?_
  refine x_iloadn (x := 8) rfl rfl ?_
  refine x_iflt (tgt := 49) rfl rfl (br_f (by decide) ?_)
  refine x_aloadn (x := 68) rfl rfl ?_
  refine y_getI (v := 6) 9 1 rfl f_9_15 rfl (congrArg Prod.fst (sh_si (sh_si (sh_si (sh_si (sh_si (sh_si (sh_si (sh_si (sh_si (sh_si (sh_si (sh_si (F.1 68 (9, 6) rfl rfl)))))))))))))) iv_eq ?_
  refine x_sipush (v := 400) rfl ks_400 ?_
  refine x_icge (tgt := 49) rfl rfl (br_f (by decide) ?_)
  refine x_aloadn (x := 68) rfl rfl ?_
  refine x_getR (b := 69) 9 0 rfl f_9_11 rfl (congrArg Prod.fst (sh_si (sh_si (sh_si (sh_si (sh_si (sh_si (sh_si (sh_si (sh_si (sh_si (sh_si (sh_si (F.1 68 (9, 6) rfl rfl)))))))))))))) (rv_si (rv_si (rv_si (rv_si (rv_si (rv_si (rv_si (rv_si (rv_si (rv_si (rv_si (rv_si (F.2.1 8704 69 rfl rfl))))))))))))) ?_
  refine x_aloadn (x := 68) rfl rfl ?_
  refine y_getI (v := 6) 9 1 rfl f_9_15 rfl (congrArg Prod.fst (sh_si (sh_si (sh_si (sh_si (sh_si (sh_si (sh_si (sh_si (sh_si (sh_si (sh_si (sh_si (F.1 68 (9, 6) rfl rfl)))))))))))))) iv_eq ?_
  refine x_iloadn (x := a2) rfl rfl ?_
  refine x_iloadn (x := 8) rfl rfl ?_
  refine x_iushr rfl ?_
  refine x_sipush (v := 255) rfl ks_255 ?_
  refine x_iand rfl ?_
  refine y_iast (N := 400) 6 rfl (sh_si (sh_si (sh_si (sh_si (sh_si (sh_si (sh_si (sh_si (sh_si (sh_si (sh_si (sh_si (F.1 69 (100, 400) rfl rfl))))))))))))) rfl (jinb_of (by decide)) (by decide) ?_
  refine x_aloadn (x := 68) rfl rfl ?_
  refine x_dup rfl rfl ?_
  refine y_getI (v := 6) 9 1 rfl f_9_15 rfl (congrArg Prod.fst (sh_si (sh_si (sh_si (sh_si (sh_si (sh_si (sh_si (sh_si (sh_si (sh_si (sh_si (sh_si (sh_si (F.1 68 (9, 6) rfl rfl))))))))))))))) (iv_si rfl iv_eq) ?_
  refine x_iconst (v := 1) rfl ki_1 ?_
  refine y_iadd (v := 7) rfl (by decide) ?_
  refine x_putI 9 1 rfl f_9_15 rfl (jfin_no TX9 RX9 6 rfl rfl) (congrArg Prod.fst (sh_si (sh_si (sh_si (sh_si (sh_si (sh_si (sh_si (sh_si (sh_si (sh_si (sh_si (sh_si (sh_si (F.1 68 (9, 6) rfl rfl))))))))))))))) rfl ?_
  refine x_iinc (x := 8) (v := 0) (ls' := [(2, .int 0), (0, .ref 68), (1, .int a2)]) rfl rfl (by decide) rfl rfl ?_
  refine x_goto (tgt := 3) rfl rfl ?_
  refine x_iloadn (x := 0) rfl rfl ?_
  refine x_iflt (tgt := 49) rfl rfl (br_f (by decide) ?_)
  refine x_aloadn (x := 68) rfl rfl ?_
  refine y_getI (v := 7) 9 1 rfl f_9_15 rfl (congrArg Prod.fst (sh_si (sh_si (sh_si (sh_si (sh_si (sh_si (sh_si (sh_si (sh_si (sh_si (sh_si (sh_si (sh_si (sh_si (F.1 68 (9, 6) rfl rfl)))))))))))))))) iv_eq ?_
  refine x_sipush (v := 400) rfl ks_400 ?_
  refine x_icge (tgt := 49) rfl rfl (br_f (by decide) ?_)
  refine x_aloadn (x := 68) rfl rfl ?_
  refine x_getR (b := 69) 9 0 rfl f_9_11 rfl (congrArg Prod.fst (sh_si (sh_si (sh_si (sh_si (sh_si (sh_si (sh_si (sh_si (sh_si (sh_si (sh_si (sh_si (sh_si (sh_si (F.1 68 (9, 6) rfl rfl)))))))))))))))) (rv_si (rv_si (rv_si (rv_si (rv_si (rv_si (rv_si (rv_si (rv_si (rv_si (rv_si (rv_si (rv_si (rv_si (F.2.1 8704 69 rfl rfl))))))))))))))) ?_
  refine x_aloadn (x := 68) rfl rfl ?_
  refine y_getI (v := 7) 9 1 rfl f_9_15 rfl (congrArg Prod.fst (sh_si (sh_si (sh_si (sh_si (sh_si (sh_si (sh_si (sh_si (sh_si (sh_si (sh_si (sh_si (sh_si (sh_si (F.1 68 (9, 6) rfl rfl)))))))))))))))) iv_eq ?_
  refine x_iloadn (x := a2) rfl rfl ?_
  refine x_iloadn (x := 0) rfl rfl ?_
  refine x_iushr rfl ?_
  refine x_sipush (v := 255) rfl ks_255 ?_
  refine x_iand rfl ?_
  refine y_iast (N := 400) 7 rfl (sh_si (sh_si (sh_si (sh_si (sh_si (sh_si (sh_si (sh_si (sh_si (sh_si (sh_si (sh_si (sh_si (sh_si (F.1 69 (100, 400) rfl rfl))))))))))))))) rfl (jinb_of (by decide)) (by decide) ?_
  refine x_aloadn (x := 68) rfl rfl ?_
  refine x_dup rfl rfl ?_
  refine y_getI (v := 7) 9 1 rfl f_9_15 rfl (congrArg Prod.fst (sh_si (sh_si (sh_si (sh_si (sh_si (sh_si (sh_si (sh_si (sh_si (sh_si (sh_si (sh_si (sh_si (sh_si (sh_si (F.1 68 (9, 6) rfl rfl))))))))))))))))) (iv_si rfl iv_eq) ?_
  refine x_iconst (v := 1) rfl ki_1 ?_
  refine y_iadd (v := 8) rfl (by decide) ?_
  refine x_putI 9 1 rfl f_9_15 rfl (jfin_no TX9 RX9 6 rfl rfl) (congrArg Prod.fst (sh_si (sh_si (sh_si (sh_si (sh_si (sh_si (sh_si (sh_si (sh_si (sh_si (sh_si (sh_si (sh_si (sh_si (sh_si (F.1 68 (9, 6) rfl rfl))))))))))))))))) rfl ?_
  refine x_iinc (x := 0) (v := (-8)) (ls' := [(2, .int (-8)), (0, .ref 68), (1, .int a2)]) rfl rfl (by decide) rfl rfl ?_
  refine x_goto (tgt := 3) rfl rfl ?_
  refine x_iloadn (x := (-8)) rfl rfl ?_
  refine x_iflt (tgt := 49) rfl rfl (br_t (by decide) ?_)
  refine x_vret rfl rfl ?_
  show jX m_X11_feed 100 0 0 30 [(0, .ref 31), (1, .int a1), (2, .int a2), (3, .int a3), (4, .int a4), (5, .int a5)] [] _ 0 0 _
  refine x_aloadn (x := 31) rfl rfl ?_
  refine x_getR (b := 68) 11 2 rfl f_11_23 rfl (congrArg Prod.fst (sh_si (sh_si (sh_si (sh_si (sh_si (sh_si (sh_si (sh_si (sh_si (sh_si (sh_si (sh_si (sh_si (sh_si (sh_si (sh_si (F.1 31 (11, 13) rfl rfl)))))))))))))))))) (rv_si (rv_si (rv_si (rv_si (rv_si (rv_si (rv_si (rv_si (rv_si (rv_si (rv_si (rv_si (rv_si (rv_si (rv_si (rv_si (F.2.1 3970 68 rfl rfl))))))))))))))))) ?_
  refine x_iloadn (x := a3) rfl rfl ?_
  refine x_inv (N := m_X9_append) (As := [.int a3]) (b := 68) (st := []) (d' := 99) (mc := 0) (ms := 0) (host := "") 9 rfl t_X9_append ⟨Or.inl q_11_102, i_X9_append.1, i_X9_append.2⟩ ⟨by decide, rfl⟩ (congrArg Prod.fst (sh_si (sh_si (sh_si (sh_si (sh_si (sh_si (sh_si (sh_si (sh_si (sh_si (sh_si (sh_si (sh_si (sh_si (sh_si (sh_si (F.1 68 (9, 6) rfl rfl)))))))))))))))))) rfl (by decide) rfl rfl ⟨by decide, by decide⟩ (jC.of rfl k_X9_append rfl ?_)
  show jX m_X9_append 99 0 0 0 [(0, .ref 68), (1, .int a3)] [] _ 0 0 _
  refine x_bipush (v := 24) rfl kb_24 ?_
  refine x_istoren (ls' := [(2, .int 24), (0, .ref 68), (1, .int a3)]) rfl rfl rfl ?_
  refine x_iloadn (x := 24) rfl rfl ?_
  refine x_iflt (tgt := 49) rfl rfl (br_f (by decide) ?_)
  refine x_aloadn (x := 68) rfl rfl ?_
  refine y_getI (v := 8) 9 1 rfl f_9_15 rfl (congrArg Prod.fst (sh_si (sh_si (sh_si (sh_si (sh_si (sh_si (sh_si (sh_si (sh_si (sh_si (sh_si (sh_si (sh_si (sh_si (sh_si (sh_si (F.1 68 (9, 6) rfl rfl)))))))))))))))))) iv_eq ?_
  refine x_sipush (v := 400) rfl ks_400 ?_
  refine x_icge (tgt := 49) rfl rfl (br_f (by decide) ?_)
  refine x_aloadn (x := 68) rfl rfl ?_
  refine x_getR (b := 69) 9 0 rfl f_9_11 rfl (congrArg Prod.fst (sh_si (sh_si (sh_si (sh_si (sh_si (sh_si (sh_si (sh_si (sh_si (sh_si (sh_si (sh_si (sh_si (sh_si (sh_si (sh_si (F.1 68 (9, 6) rfl rfl)))))))))))))))))) (rv_si (rv_si (rv_si (rv_si (rv_si (rv_si (rv_si (rv_si (rv_si (rv_si (rv_si (rv_si (rv_si (rv_si (rv_si (rv_si (F.2.1 8704 69 rfl rfl))))))))))))))))) ?_
  refine x_aloadn (x := 68) rfl rfl ?_
  refine y_getI (v := 8) 9 1 rfl f_9_15 rfl (congrArg Prod.fst (sh_si (sh_si (sh_si (sh_si (sh_si (sh_si (sh_si (sh_si (sh_si (sh_si (sh_si (sh_si (sh_si (sh_si (sh_si (sh_si (F.1 68 (9, 6) rfl rfl)))))))))))))))))) iv_eq ?_
  refine x_iloadn (x := a3) rfl rfl ?_
  refine x_iloadn (x := 24) rfl rfl ?_
  refine x_iushr rfl ?_
  refine x_sipush (v := 255) rfl ks_255 ?_
  refine x_iand rfl ?_
  refine y_iast (N := 400) 8 rfl (sh_si (sh_si (sh_si (sh_si (sh_si (sh_si (sh_si (sh_si (sh_si (sh_si (sh_si (sh_si (sh_si (sh_si (sh_si (sh_si (F.1 69 (100, 400) rfl rfl))))))))))))))))) rfl (jinb_of (by decide)) (by decide) ?_
  refine x_aloadn (x := 68) rfl rfl ?_
  refine x_dup rfl rfl ?_
  refine y_getI (v := 8) 9 1 rfl f_9_15 rfl (congrArg Prod.fst (sh_si (sh_si (sh_si (sh_si (sh_si (sh_si (sh_si (sh_si (sh_si (sh_si (sh_si (sh_si (sh_si (sh_si (sh_si (sh_si (sh_si (F.1 68 (9, 6) rfl rfl))))))))))))))))))) (iv_si rfl iv_eq) ?_
  refine x_iconst (v := 1) rfl ki_1 ?_
  refine y_iadd (v := 9) rfl (by decide) ?_
  refine x_putI 9 1 rfl f_9_15 rfl (jfin_no TX9 RX9 6 rfl rfl) (congrArg Prod.fst (sh_si (sh_si (sh_si (sh_si (sh_si (sh_si (sh_si (sh_si (sh_si (sh_si (sh_si (sh_si (sh_si (sh_si (sh_si (sh_si (sh_si (F.1 68 (9, 6) rfl rfl))))))))))))))))))) rfl ?_
  refine x_iinc (x := 24) (v := 16) (ls' := [(2, .int 16), (0, .ref 68), (1, .int a3)]) rfl rfl (by decide) rfl rfl ?_
  refine x_goto (tgt := 3) rfl rfl ?_
  refine x_iloadn (x := 16) rfl rfl ?_
  refine x_iflt (tgt := 49) rfl rfl (br_f (by decide) ?_)
  refine x_aloadn (x := 68) rfl rfl ?_
  refine y_getI (v := 9) 9 1 rfl f_9_15 rfl (congrArg Prod.fst (sh_si (sh_si (sh_si (sh_si (sh_si (sh_si (sh_si (sh_si (sh_si (sh_si (sh_si (sh_si (sh_si (sh_si (sh_si (sh_si (sh_si (sh_si (F.1 68 (9, 6) rfl rfl)))))))))))))))))))) iv_eq ?_
  refine x_sipush (v := 400) rfl ks_400 ?_
  refine x_icge (tgt := 49) rfl rfl (br_f (by decide) ?_)
  refine x_aloadn (x := 68) rfl rfl ?_
  refine x_getR (b := 69) 9 0 rfl f_9_11 rfl (congrArg Prod.fst (sh_si (sh_si (sh_si (sh_si (sh_si (sh_si (sh_si (sh_si (sh_si (sh_si (sh_si (sh_si (sh_si (sh_si (sh_si (sh_si (sh_si (sh_si (F.1 68 (9, 6) rfl rfl)))))))))))))))))))) (rv_si (rv_si (rv_si (rv_si (rv_si (rv_si (rv_si (rv_si (rv_si (rv_si (rv_si (rv_si (rv_si (rv_si (rv_si (rv_si (rv_si (rv_si (F.2.1 8704 69 rfl rfl))))))))))))))))))) ?_
  refine x_aloadn (x := 68) rfl rfl ?_
  refine y_getI (v := 9) 9 1 rfl f_9_15 rfl (congrArg Prod.fst (sh_si (sh_si (sh_si (sh_si (sh_si (sh_si (sh_si (sh_si (sh_si (sh_si (sh_si (sh_si (sh_si (sh_si (sh_si (sh_si (sh_si (sh_si (F.1 68 (9, 6) rfl rfl)))))))))))))))))))) iv_eq ?_
  refine x_iloadn (x := a3) rfl rfl ?_
  refine x_iloadn (x := 16) rfl rfl ?_
  refine x_iushr rfl ?_
  refine x_sipush (v := 255) rfl ks_255 ?_
  refine x_iand rfl ?_
  refine y_iast (N := 400) 9 rfl (sh_si (sh_si (sh_si (sh_si (sh_si (sh_si (sh_si (sh_si (sh_si (sh_si (sh_si (sh_si (sh_si (sh_si (sh_si (sh_si (sh_si (sh_si (F.1 69 (100, 400) rfl rfl))))))))))))))))))) rfl (jinb_of (by decide)) (by decide) ?_
  refine x_aloadn (x := 68) rfl rfl ?_
  refine x_dup rfl rfl ?_
  refine y_getI (v := 9) 9 1 rfl f_9_15 rfl (congrArg Prod.fst (sh_si (sh_si (sh_si (sh_si (sh_si (sh_si (sh_si (sh_si (sh_si (sh_si (sh_si (sh_si (sh_si (sh_si (sh_si (sh_si (sh_si (sh_si (sh_si (F.1 68 (9, 6) rfl rfl))))))))))))))))))))) (iv_si rfl iv_eq) ?_
  refine x_iconst (v := 1) rfl ki_1 ?_
  refine y_iadd (v := 10) rfl (by decide) ?_
  refine x_putI 9 1 rfl f_9_15 rfl (jfin_no TX9 RX9 6 rfl rfl) (congrArg Prod.fst (sh_si (sh_si (sh_si (sh_si (sh_si (sh_si (sh_si (sh_si (sh_si (sh_si (sh_si (sh_si (sh_si (sh_si (sh_si (sh_si (sh_si (sh_si (sh_si (F.1 68 (9, 6) rfl rfl))))))))))))))))))))) rfl ?_
  refine x_iinc (x := 16) (v := 8) (ls' := [(2, .int 8), (0, .ref 68), (1, .int a3)]) rfl rfl (by decide) rfl rfl ?_
  refine x_goto (tgt := 3) rfl rfl ?_
  refine x_iloadn (x := 8) rfl rfl ?_
  refine x_iflt (tgt := 49) rfl rfl (br_f (by decide) ?_)
  refine x_aloadn (x := 68) rfl rfl ?_
  refine y_getI (v := 10) 9 1 rfl f_9_15 rfl (congrArg Prod.fst (sh_si (sh_si (sh_si (sh_si (sh_si (sh_si (sh_si (sh_si (sh_si (sh_si (sh_si (sh_si (sh_si (sh_si (sh_si (sh_si (sh_si (sh_si (sh_si (sh_si (F.1 68 (9, 6) rfl rfl)))))))))))))))))))))) iv_eq ?_
  refine x_sipush (v := 400) rfl ks_400 ?_
  refine x_icge (tgt := 49) rfl rfl (br_f (by decide) ?_)
  refine x_aloadn (x := 68) rfl rfl ?_
  refine x_getR (b := 69) 9 0 rfl f_9_11 rfl (congrArg Prod.fst (sh_si (sh_si (sh_si (sh_si (sh_si (sh_si (sh_si (sh_si (sh_si (sh_si (sh_si (sh_si (sh_si (sh_si (sh_si (sh_si (sh_si (sh_si (sh_si (sh_si (F.1 68 (9, 6) rfl rfl)))))))))))))))))))))) (rv_si (rv_si (rv_si (rv_si (rv_si (rv_si (rv_si (rv_si (rv_si (rv_si (rv_si (rv_si (rv_si (rv_si (rv_si (rv_si (rv_si (rv_si (rv_si (rv_si (F.2.1 8704 69 rfl rfl))))))))))))))))))))) ?_
  refine x_aloadn (x := 68) rfl rfl ?_
  refine y_getI (v := 10) 9 1 rfl f_9_15 rfl (congrArg Prod.fst (sh_si (sh_si (sh_si (sh_si (sh_si (sh_si (sh_si (sh_si (sh_si (sh_si (sh_si (sh_si (sh_si (sh_si (sh_si (sh_si (sh_si (sh_si (sh_si (sh_si (F.1 68 (9, 6) rfl rfl)))))))))))))))))))))) iv_eq ?_
  refine x_iloadn (x := a3) rfl rfl ?_
  refine x_iloadn (x := 8) rfl rfl ?_
  refine x_iushr rfl ?_
  refine x_sipush (v := 255) rfl ks_255 ?_
  refine x_iand rfl ?_
  refine y_iast (N := 400) 10 rfl (sh_si (sh_si (sh_si (sh_si (sh_si (sh_si (sh_si (sh_si (sh_si (sh_si (sh_si (sh_si (sh_si (sh_si (sh_si (sh_si (sh_si (sh_si (sh_si (sh_si (F.1 69 (100, 400) rfl rfl))))))))))))))))))))) rfl (jinb_of (by decide)) (by decide) ?_
  refine x_aloadn (x := 68) rfl rfl ?_
  refine x_dup rfl rfl ?_
  refine y_getI (v := 10) 9 1 rfl f_9_15 rfl (congrArg Prod.fst (sh_si (sh_si (sh_si (sh_si (sh_si (sh_si (sh_si (sh_si (sh_si (sh_si (sh_si (sh_si (sh_si (sh_si (sh_si (sh_si (sh_si (sh_si (sh_si (sh_si (sh_si (F.1 68 (9, 6) rfl rfl))))))))))))))))))))))) (iv_si rfl iv_eq) ?_
  refine x_iconst (v := 1) rfl ki_1 ?_
  refine y_iadd (v := 11) rfl (by decide) ?_
  refine x_putI 9 1 rfl f_9_15 rfl (jfin_no TX9 RX9 6 rfl rfl) (congrArg Prod.fst (sh_si (sh_si (sh_si (sh_si (sh_si (sh_si (sh_si (sh_si (sh_si (sh_si (sh_si (sh_si (sh_si (sh_si (sh_si (sh_si (sh_si (sh_si (sh_si (sh_si (sh_si (F.1 68 (9, 6) rfl rfl))))))))))))))))))))))) rfl ?_
  refine x_iinc (x := 8) (v := 0) (ls' := [(2, .int 0), (0, .ref 68), (1, .int a3)]) rfl rfl (by decide) rfl rfl ?_
  refine x_goto (tgt := 3) rfl rfl ?_
  refine x_iloadn (x := 0) rfl rfl ?_
  refine x_iflt (tgt := 49) rfl rfl (br_f (by decide) ?_)
  refine x_aloadn (x := 68) rfl rfl ?_
  refine y_getI (v := 11) 9 1 rfl f_9_15 rfl (congrArg Prod.fst (sh_si (sh_si (sh_si (sh_si (sh_si (sh_si (sh_si (sh_si (sh_si (sh_si (sh_si (sh_si (sh_si (sh_si (sh_si (sh_si (sh_si (sh_si (sh_si (sh_si (sh_si (sh_si (F.1 68 (9, 6) rfl rfl)))))))))))))))))))))))) iv_eq ?_
  refine x_sipush (v := 400) rfl ks_400 ?_
  refine x_icge (tgt := 49) rfl rfl (br_f (by decide) ?_)
  refine x_aloadn (x := 68) rfl rfl ?_
  refine x_getR (b := 69) 9 0 rfl f_9_11 rfl (congrArg Prod.fst (sh_si (sh_si (sh_si (sh_si (sh_si (sh_si (sh_si (sh_si (sh_si (sh_si (sh_si (sh_si (sh_si (sh_si (sh_si (sh_si (sh_si (sh_si (sh_si (sh_si (sh_si (sh_si (F.1 68 (9, 6) rfl rfl)))))))))))))))))))))))) (rv_si (rv_si (rv_si (rv_si (rv_si (rv_si (rv_si (rv_si (rv_si (rv_si (rv_si (rv_si (rv_si (rv_si (rv_si (rv_si (rv_si (rv_si (rv_si (rv_si (rv_si (rv_si (F.2.1 8704 69 rfl rfl))))))))))))))))))))))) ?_
  refine x_aloadn (x := 68) rfl rfl ?_
  refine y_getI (v := 11) 9 1 rfl f_9_15 rfl (congrArg Prod.fst (sh_si (sh_si (sh_si (sh_si (sh_si (sh_si (sh_si (sh_si (sh_si (sh_si (sh_si (sh_si (sh_si (sh_si (sh_si (sh_si (sh_si (sh_si (sh_si (sh_si (sh_si (sh_si (F.1 68 (9, 6) rfl rfl)))))))))))))))))))))))) iv_eq ?_
  refine x_iloadn (x := a3) rfl rfl ?_
  refine x_iloadn (x := 0) rfl rfl ?_
  refine x_iushr rfl ?_
  refine x_sipush (v := 255) rfl ks_255 ?_
  refine x_iand rfl ?_
  refine y_iast (N := 400) 11 rfl (sh_si (sh_si (sh_si (sh_si (sh_si (sh_si (sh_si (sh_si (sh_si (sh_si (sh_si (sh_si (sh_si (sh_si (sh_si (sh_si (sh_si (sh_si (sh_si (sh_si (sh_si (sh_si (F.1 69 (100, 400) rfl rfl))))))))))))))))))))))) rfl (jinb_of (by decide)) (by decide) ?_
  refine x_aloadn (x := 68) rfl rfl ?_
  refine x_dup rfl rfl ?_
  refine y_getI (v := 11) 9 1 rfl f_9_15 rfl (congrArg Prod.fst (sh_si (sh_si (sh_si (sh_si (sh_si (sh_si (sh_si (sh_si (sh_si (sh_si (sh_si (sh_si (sh_si (sh_si (sh_si (sh_si (sh_si (sh_si (sh_si (sh_si (sh_si (sh_si (sh_si (F.1 68 (9, 6) rfl rfl))))))))))))))))))))))))) (iv_si rfl iv_eq) ?_
  refine x_iconst (v := 1) rfl ki_1 ?_
  refine y_iadd (v := 12) rfl (by decide) ?_
  refine x_putI 9 1 rfl f_9_15 rfl (jfin_no TX9 RX9 6 rfl rfl) (congrArg Prod.fst (sh_si (sh_si (sh_si (sh_si (sh_si (sh_si (sh_si (sh_si (sh_si (sh_si (sh_si (sh_si (sh_si (sh_si (sh_si (sh_si (sh_si (sh_si (sh_si (sh_si (sh_si (sh_si (sh_si (F.1 68 (9, 6) rfl rfl))))))))))))))))))))))))) rfl ?_
  refine x_iinc (x := 0) (v := (-8)) (ls' := [(2, .int (-8)), (0, .ref 68), (1, .int a3)]) rfl rfl (by decide) rfl rfl ?_
  refine x_goto (tgt := 3) rfl rfl ?_
  refine x_iloadn (x := (-8)) rfl rfl ?_
  refine x_iflt (tgt := 49) rfl rfl (br_t (by decide) ?_)
  refine x_vret rfl rfl ?_
  show jX m_X11_feed 100 0 0 38 [(0, .ref 31), (1, .int a1), (2, .int a2), (3, .int a3), (4, .int a4), (5, .int a5)] [] _ 0 0 _
  refine x_aloadn (x := 31) rfl rfl ?_
  refine x_getR (b := 68) 11 2 rfl f_11_23 rfl (congrArg Prod.fst (sh_si (sh_si (sh_si (sh_si (sh_si (sh_si (sh_si (sh_si (sh_si (sh_si (sh_si (sh_si (sh_si (sh_si (sh_si (sh_si (sh_si (sh_si (sh_si (sh_si (sh_si (sh_si (sh_si (sh_si (F.1 31 (11, 13) rfl rfl)))))))))))))))))))))))))) (rv_si (rv_si (rv_si (rv_si (rv_si (rv_si (rv_si (rv_si (rv_si (rv_si (rv_si (rv_si (rv_si (rv_si (rv_si (rv_si (rv_si (rv_si (rv_si (rv_si (rv_si (rv_si (rv_si (rv_si (F.2.1 3970 68 rfl rfl))))))))))))))))))))))))) ?_
  refine x_iload (x := a4) rfl rfl ?_
  refine x_inv (N := m_X9_append) (As := [.int a4]) (b := 68) (st := []) (d' := 99) (mc := 0) (ms := 0) (host := "") 9 rfl t_X9_append ⟨Or.inl q_11_102, i_X9_append.1, i_X9_append.2⟩ ⟨by decide, rfl⟩ (congrArg Prod.fst (sh_si (sh_si (sh_si (sh_si (sh_si (sh_si (sh_si (sh_si (sh_si (sh_si (sh_si (sh_si (sh_si (sh_si (sh_si (sh_si (sh_si (sh_si (sh_si (sh_si (sh_si (sh_si (sh_si (sh_si (F.1 68 (9, 6) rfl rfl)))))))))))))))))))))))))) rfl (by decide) rfl rfl ⟨by decide, by decide⟩ (jC.of rfl k_X9_append rfl ?_)
  show jX m_X9_append 99 0 0 0 [(0, .ref 68), (1, .int a4)] [] _ 0 0 _
  refine x_bipush (v := 24) rfl kb_24 ?_
  refine x_istoren (ls' := [(2, .int 24), (0, .ref 68), (1, .int a4)]) rfl rfl rfl ?_
  refine x_iloadn (x := 24) rfl rfl ?_
  refine x_iflt (tgt := 49) rfl rfl (br_f (by decide) ?_)
  refine x_aloadn (x := 68) rfl rfl ?_
  refine y_getI (v := 12) 9 1 rfl f_9_15 rfl (congrArg Prod.fst (sh_si (sh_si (sh_si (sh_si (sh_si (sh_si (sh_si (sh_si (sh_si (sh_si (sh_si (sh_si (sh_si (sh_si (sh_si (sh_si (sh_si (sh_si (sh_si (sh_si (sh_si (sh_si (sh_si (sh_si (F.1 68 (9, 6) rfl rfl)))))))))))))))))))))))))) iv_eq ?_
  refine x_sipush (v := 400) rfl ks_400 ?_
  refine x_icge (tgt := 49) rfl rfl (br_f (by decide) ?_)
  refine x_aloadn (x := 68) rfl rfl ?_
  refine x_getR (b := 69) 9 0 rfl f_9_11 rfl (congrArg Prod.fst (sh_si (sh_si (sh_si (sh_si (sh_si (sh_si (sh_si (sh_si (sh_si (sh_si (sh_si (sh_si (sh_si (sh_si (sh_si (sh_si (sh_si (sh_si (sh_si (sh_si (sh_si (sh_si (sh_si (sh_si (F.1 68 (9, 6) rfl rfl)))))))))))))))))))))))))) (rv_si (rv_si (rv_si (rv_si (rv_si (rv_si (rv_si (rv_si (rv_si (rv_si (rv_si (rv_si (rv_si (rv_si (rv_si (rv_si (rv_si (rv_si (rv_si (rv_si (rv_si (rv_si (rv_si (rv_si (F.2.1 8704 69 rfl rfl))))))))))))))))))))))))) ?_
  refine x_aloadn (x := 68) rfl rfl ?_
  refine y_getI (v := 12) 9 1 rfl f_9_15 rfl (congrArg Prod.fst (sh_si (sh_si (sh_si (sh_si (sh_si (sh_si (sh_si (sh_si (sh_si (sh_si (sh_si (sh_si (sh_si (sh_si (sh_si (sh_si (sh_si (sh_si (sh_si (sh_si (sh_si (sh_si (sh_si (sh_si (F.1 68 (9, 6) rfl rfl)))))))))))))))))))))))))) iv_eq ?_
  refine x_iloadn (x := a4) rfl rfl ?_
  refine x_iloadn (x := 24) rfl rfl ?_
  refine x_iushr rfl ?_
  refine x_sipush (v := 255) rfl ks_255 ?_
  refine x_iand rfl ?_
  refine y_iast (N := 400) 12 rfl (sh_si (sh_si (sh_si (sh_si (sh_si (sh_si (sh_si (sh_si (sh_si (sh_si (sh_si (sh_si (sh_si (sh_si (sh_si (sh_si (sh_si (sh_si (sh_si (sh_si (sh_si (sh_si (sh_si (sh_si (F.1 69 (100, 400) rfl rfl))))))))))))))))))))))))) rfl (jinb_of (by decide)) (by decide) ?_
  refine x_aloadn (x := 68) rfl rfl ?_
  refine x_dup rfl rfl ?_
  refine y_getI (v := 12) 9 1 rfl f_9_15 rfl (congrArg Prod.fst (sh_si (sh_si (sh_si (sh_si (sh_si (sh_si (sh_si (sh_si (sh_si (sh_si (sh_si (sh_si (sh_si (sh_si (sh_si (sh_si (sh_si (sh_si (sh_si (sh_si (sh_si (sh_si (sh_si (sh_si (sh_si (F.1 68 (9, 6) rfl rfl))))))))))))))))))))))))))) (iv_si rfl iv_eq) ?_
  refine x_iconst (v := 1) rfl ki_1 ?_
  refine y_iadd (v := 13) rfl (by decide) ?_
  refine x_putI 9 1 rfl f_9_15 rfl (jfin_no TX9 RX9 6 rfl rfl) (congrArg Prod.fst (sh_si (sh_si (sh_si (sh_si (sh_si (sh_si (sh_si (sh_si (sh_si (sh_si (sh_si (sh_si (sh_si (sh_si (sh_si (sh_si (sh_si (sh_si (sh_si (sh_si (sh_si (sh_si (sh_si (sh_si (sh_si (F.1 68 (9, 6) rfl rfl))))))))))))))))))))))))))) rfl ?_
  refine x_iinc (x := 24) (v := 16) (ls' := [(2, .int 16), (0, .ref 68), (1, .int a4)]) rfl rfl (by decide) rfl rfl ?_
  refine x_goto (tgt := 3) rfl rfl ?_
  refine x_iloadn (x := 16) rfl rfl ?_
  refine x_iflt (tgt := 49) rfl rfl (br_f (by decide) ?_)
  refine x_aloadn (x := 68) rfl rfl ?_
  refine y_getI (v := 13) 9 1 rfl f_9_15 rfl (congrArg Prod.fst (sh_si (sh_si (sh_si (sh_si (sh_si (sh_si (sh_si (sh_si (sh_si (sh_si (sh_si (sh_si (sh_si (sh_si (sh_si (sh_si (sh_si (sh_si (sh_si (sh_si (sh_si (sh_si (sh_si (sh_si (sh_si (sh_si (F.1 68 (9, 6) rfl rfl)))))))))))))))))))))))))))) iv_eq ?_
  refine x_sipush (v := 400) rfl ks_400 ?_
  refine x_icge (tgt := 49) rfl rfl (br_f (by decide) ?_)
  refine x_aloadn (x := 68) rfl rfl ?_
  refine x_getR (b := 69) 9 0 rfl f_9_11 rfl (congrArg Prod.fst (sh_si (sh_si (sh_si (sh_si (sh_si (sh_si (sh_si (sh_si (sh_si (sh_si (sh_si (sh_si (sh_si (sh_si (sh_si (sh_si (sh_si (sh_si (sh_si (sh_si (sh_si (sh_si (sh_si (sh_si (sh_si (sh_si (F.1 68 (9, 6) rfl rfl)))))))))))))))))))))))))))) (rv_si (rv_si (rv_si (rv_si (rv_si (rv_si (rv_si (rv_si (rv_si (rv_si (rv_si (rv_si (rv_si (rv_si (rv_si (rv_si (rv_si (rv_si (rv_si (rv_si (rv_si (rv_si (rv_si (rv_si (rv_si (rv_si (F.2.1 8704 69 rfl rfl))))))))))))))))))))))))))) ?_
  refine x_aloadn (x := 68) rfl rfl ?_
  refine y_getI (v := 13) 9 1 rfl f_9_15 rfl (congrArg Prod.fst (sh_si (sh_si (sh_si (sh_si (sh_si (sh_si (sh_si (sh_si (sh_si (sh_si (sh_si (sh_si (sh_si (sh_si (sh_si (sh_si (sh_si (sh_si (sh_si (sh_si (sh_si (sh_si (sh_si (sh_si (sh_si (sh_si (F.1 68 (9, 6) rfl rfl)))))))))))))))))))))))))))) iv_eq ?_
  refine x_iloadn (x := a4) rfl rfl ?_
  refine x_iloadn (x := 16) rfl rfl ?_
  refine x_iushr rfl ?_
  refine x_sipush (v := 255) rfl ks_255 ?_
  refine x_iand rfl ?_
  refine y_iast (N := 400) 13 rfl (sh_si (sh_si (sh_si (sh_si (sh_si (sh_si (sh_si (sh_si (sh_si (sh_si (sh_si (sh_si (sh_si (sh_si (sh_si (sh_si (sh_si (sh_si (sh_si (sh_si (sh_si (sh_si (sh_si (sh_si (sh_si (sh_si (F.1 69 (100, 400) rfl rfl))))))))))))))))))))))))))) rfl (jinb_of (by decide)) (by decide) ?_
  refine x_aloadn (x := 68) rfl rfl ?_
  refine x_dup rfl rfl ?_
  refine y_getI (v := 13) 9 1 rfl f_9_15 rfl (congrArg Prod.fst (sh_si (sh_si (sh_si (sh_si (sh_si (sh_si (sh_si (sh_si (sh_si (sh_si (sh_si (sh_si (sh_si (sh_si (sh_si (sh_si (sh_si (sh_si (sh_si (sh_si (sh_si (sh_si (sh_si (sh_si (sh_si (sh_si (sh_si (F.1 68 (9, 6) rfl rfl))))))))))))))))))))))))))))) (iv_si rfl iv_eq) ?_
  refine x_iconst (v := 1) rfl ki_1 ?_
  refine y_iadd (v := 14) rfl (by decide) ?_
  refine x_putI 9 1 rfl f_9_15 rfl (jfin_no TX9 RX9 6 rfl rfl) (congrArg Prod.fst (sh_si (sh_si (sh_si (sh_si (sh_si (sh_si (sh_si (sh_si (sh_si (sh_si (sh_si (sh_si (sh_si (sh_si (sh_si (sh_si (sh_si (sh_si (sh_si (sh_si (sh_si (sh_si (sh_si (sh_si (sh_si (sh_si (sh_si (F.1 68 (9, 6) rfl rfl))))))))))))))))))))))))))))) rfl ?_
  refine x_iinc (x := 16) (v := 8) (ls' := [(2, .int 8), (0, .ref 68), (1, .int a4)]) rfl rfl (by decide) rfl rfl ?_
  refine x_goto (tgt := 3) rfl rfl ?_
  refine x_iloadn (x := 8) rfl rfl ?_
  refine x_iflt (tgt := 49) rfl rfl (br_f (by decide) ?_)
  refine x_aloadn (x := 68) rfl rfl ?_
  refine y_getI (v := 14) 9 1 rfl f_9_15 rfl (congrArg Prod.fst (sh_si (sh_si (sh_si (sh_si (sh_si (sh_si (sh_si (sh_si (sh_si (sh_si (sh_si (sh_si (sh_si (sh_si (sh_si (sh_si (sh_si (sh_si (sh_si (sh_si (sh_si (sh_si (sh_si (sh_si (sh_si (sh_si (sh_si (sh_si (F.1 68 (9, 6) rfl rfl)))))))))))))))))))))))))))))) iv_eq ?_
  refine x_sipush (v := 400) rfl ks_400 ?_
  refine x_icge (tgt := 49) rfl rfl (br_f (by decide) ?_)
  refine x_aloadn (x := 68) rfl rfl ?_
  refine x_getR (b := 69) 9 0 rfl f_9_11 rfl (congrArg Prod.fst (sh_si (sh_si (sh_si (sh_si (sh_si (sh_si (sh_si (sh_si (sh_si (sh_si (sh_si (sh_si (sh_si (sh_si (sh_si (sh_si (sh_si (sh_si (sh_si (sh_si (sh_si (sh_si (sh_si (sh_si (sh_si (sh_si (sh_si (sh_si (F.1 68 (9, 6) rfl rfl)))))))))))))))))))))))))))))) (rv_si (rv_si (rv_si (rv_si (rv_si (rv_si (rv_si (rv_si (rv_si (rv_si (rv_si (rv_si (rv_si (rv_si (rv_si (rv_si (rv_si (rv_si (rv_si (rv_si (rv_si (rv_si (rv_si (rv_si (rv_si (rv_si (rv_si (rv_si (F.2.1 8704 69 rfl rfl))))))))))))))))))))))))))))) ?_
  refine x_aloadn (x := 68) rfl rfl ?_
  refine y_getI (v := 14) 9 1 rfl f_9_15 rfl (congrArg Prod.fst (sh_si (sh_si (sh_si (sh_si (sh_si (sh_si (sh_si (sh_si (sh_si (sh_si (sh_si (sh_si (sh_si (sh_si (sh_si (sh_si (sh_si (sh_si (sh_si (sh_si (sh_si (sh_si (sh_si (sh_si (sh_si (sh_si (sh_si (sh_si (F.1 68 (9, 6) rfl rfl)))))))))))))))))))))))))))))) iv_eq ?_
  refine x_iloadn (x := a4) rfl rfl ?_
  refine x_iloadn (x := 8) rfl rfl ?_
  refine x_iushr rfl ?_
  refine x_sipush (v := 255) rfl ks_255 ?_
  refine x_iand rfl ?_
  refine y_iast (N := 400) 14 rfl (sh_si (sh_si (sh_si (sh_si (sh_si (sh_si (sh_si (sh_si (sh_si (sh_si (sh_si (sh_si (sh_si (sh_si (sh_si (sh_si (sh_si (sh_si (sh_si (sh_si (sh_si (sh_si (sh_si (sh_si (sh_si (sh_si (sh_si (sh_si (F.1 69 (100, 400) rfl rfl))))))))))))))))))))))))))))) rfl (jinb_of (by decide)) (by decide) ?_
  refine x_aloadn (x := 68) rfl rfl ?_
  refine x_dup rfl rfl ?_
  refine y_getI (v := 14) 9 1 rfl f_9_15 rfl (congrArg Prod.fst (sh_si (sh_si (sh_si (sh_si (sh_si (sh_si (sh_si (sh_si (sh_si (sh_si (sh_si (sh_si (sh_si (sh_si (sh_si (sh_si (sh_si (sh_si (sh_si (sh_si (sh_si (sh_si (sh_si (sh_si (sh_si (sh_si (sh_si (sh_si (sh_si (F.1 68 (9, 6) rfl rfl))))))))))))))))))))))))))))))) (iv_si rfl iv_eq) ?_
  refine x_iconst (v := 1) rfl ki_1 ?_
  refine y_iadd (v := 15) rfl (by decide) ?_
  refine x_putI 9 1 rfl f_9_15 rfl (jfin_no TX9 RX9 6 rfl rfl) (congrArg Prod.fst (sh_si (sh_si (sh_si (sh_si (sh_si (sh_si (sh_si (sh_si (sh_si (sh_si (sh_si (sh_si (sh_si (sh_si (sh_si (sh_si (sh_si (sh_si (sh_si (sh_si (sh_si (sh_si (sh_si (sh_si (sh_si (sh_si (sh_si (sh_si (sh_si (F.1 68 (9, 6) rfl rfl))))))))))))))))))))))))))))))) rfl ?_
  refine x_iinc (x := 8) (v := 0) (ls' := [(2, .int 0), (0, .ref 68), (1, .int a4)]) rfl rfl (by decide) rfl rfl ?_
  refine x_goto (tgt := 3) rfl rfl ?_
  refine x_iloadn (x := 0) rfl rfl ?_
  refine x_iflt (tgt := 49) rfl rfl (br_f (by decide) ?_)
  refine x_aloadn (x := 68) rfl rfl ?_
  refine y_getI (v := 15) 9 1 rfl f_9_15 rfl (congrArg Prod.fst (sh_si (sh_si (sh_si (sh_si (sh_si (sh_si (sh_si (sh_si (sh_si (sh_si (sh_si (sh_si (sh_si (sh_si (sh_si (sh_si (sh_si (sh_si (sh_si (sh_si (sh_si (sh_si (sh_si (sh_si (sh_si (sh_si (sh_si (sh_si (sh_si (sh_si (F.1 68 (9, 6) rfl rfl)))))))))))))))))))))))))))))))) iv_eq ?_
  refine x_sipush (v := 400) rfl ks_400 ?_
  refine x_icge (tgt := 49) rfl rfl (br_f (by decide) ?_)
  refine x_aloadn (x := 68) rfl rfl ?_
  refine x_getR (b := 69) 9 0 rfl f_9_11 rfl (congrArg Prod.fst (sh_si (sh_si (sh_si (sh_si (sh_si (sh_si (sh_si (sh_si (sh_si (sh_si (sh_si (sh_si (sh_si (sh_si (sh_si (sh_si (sh_si (sh_si (sh_si (sh_si (sh_si (sh_si (sh_si (sh_si (sh_si (sh_si (sh_si (sh_si (sh_si (sh_si (F.1 68 (9, 6) rfl rfl)))))))))))))))))))))))))))))))) (rv_si (rv_si (rv_si (rv_si (rv_si (rv_si (rv_si (rv_si (rv_si (rv_si (rv_si (rv_si (rv_si (rv_si (rv_si (rv_si (rv_si (rv_si (rv_si (rv_si (rv_si (rv_si (rv_si (rv_si (rv_si (rv_si (rv_si (rv_si (rv_si (rv_si (F.2.1 8704 69 rfl rfl))))))))))))))))))))))))))))))) ?_
  refine x_aloadn (x := 68) rfl rfl ?_
  refine y_getI (v := 15) 9 1 rfl f_9_15 rfl (congrArg Prod.fst (sh_si (sh_si (sh_si (sh_si (sh_si (sh_si (sh_si (sh_si (sh_si (sh_si (sh_si (sh_si (sh_si (sh_si (sh_si (sh_si (sh_si (sh_si (sh_si (sh_si (sh_si (sh_si (sh_si (sh_si (sh_si (sh_si (sh_si (sh_si (sh_si (sh_si (F.1 68 (9, 6) rfl rfl)))))))))))))))))))))))))))))))) iv_eq ?_
  refine x_iloadn (x := a4) rfl rfl ?_
  refine x_iloadn (x := 0) rfl rfl ?_
  refine x_iushr rfl ?_
  refine x_sipush (v := 255) rfl ks_255 ?_
  refine x_iand rfl ?_
  refine y_iast (N := 400) 15 rfl (sh_si (sh_si (sh_si (sh_si (sh_si (sh_si (sh_si (sh_si (sh_si (sh_si (sh_si (sh_si (sh_si (sh_si (sh_si (sh_si (sh_si (sh_si (sh_si (sh_si (sh_si (sh_si (sh_si (sh_si (sh_si (sh_si (sh_si (sh_si (sh_si (sh_si (F.1 69 (100, 400) rfl rfl))))))))))))))))))))))))))))))) rfl (jinb_of (by decide)) (by decide) ?_
  refine x_aloadn (x := 68) rfl rfl ?_
  refine x_dup rfl rfl ?_
  refine y_getI (v := 15) 9 1 rfl f_9_15 rfl (congrArg Prod.fst (sh_si (sh_si (sh_si (sh_si (sh_si (sh_si (sh_si (sh_si (sh_si (sh_si (sh_si (sh_si (sh_si (sh_si (sh_si (sh_si (sh_si (sh_si (sh_si (sh_si (sh_si (sh_si (sh_si (sh_si (sh_si (sh_si (sh_si (sh_si (sh_si (sh_si (sh_si (F.1 68 (9, 6) rfl rfl))))))))))))))))))))))))))))))))) (iv_si rfl iv_eq) ?_
  refine x_iconst (v := 1) rfl ki_1 ?_
  refine y_iadd (v := 16) rfl (by decide) ?_
  refine x_putI 9 1 rfl f_9_15 rfl (jfin_no TX9 RX9 6 rfl rfl) (congrArg Prod.fst (sh_si (sh_si (sh_si (sh_si (sh_si (sh_si (sh_si (sh_si (sh_si (sh_si (sh_si (sh_si (sh_si (sh_si (sh_si (sh_si (sh_si (sh_si (sh_si (sh_si (sh_si (sh_si (sh_si (sh_si (sh_si (sh_si (sh_si (sh_si (sh_si (sh_si (sh_si (F.1 68 (9, 6) rfl rfl))))))))))))))))))))))))))))))))) rfl ?_
  refine x_iinc (x := 0) (v := (-8)) (ls' := [(2, .int (-8)), (0, .ref 68), (1, .int a4)]) rfl rfl (by decide) rfl rfl ?_
  refine x_goto (tgt := 3) rfl rfl ?_
  refine x_iloadn (x := (-8)) rfl rfl ?_
  refine x_iflt (tgt := 49) rfl rfl (br_t (by decide) ?_)
  refine x_vret rfl rfl ?_
  show jX m_X11_feed 100 0 0 47 [(0, .ref 31), (1, .int a1), (2, .int a2), (3, .int a3), (4, .int a4), (5, .int a5)] [] _ 0 0 _
  refine x_aloadn (x := 31) rfl rfl ?_
  refine x_getR (b := 68) 11 2 rfl f_11_23 rfl (congrArg Prod.fst (sh_si (sh_si (sh_si (sh_si (sh_si (sh_si (sh_si (sh_si (sh_si (sh_si (sh_si (sh_si (sh_si (sh_si (sh_si (sh_si (sh_si (sh_si (sh_si (sh_si (sh_si (sh_si (sh_si (sh_si (sh_si (sh_si (sh_si (sh_si (sh_si (sh_si (sh_si (sh_si (F.1 31 (11, 13) rfl rfl)))))))))))))))))))))))))))))))))) (rv_si (rv_si (rv_si (rv_si (rv_si (rv_si (rv_si (rv_si (rv_si (rv_si (rv_si (rv_si (rv_si (rv_si (rv_si (rv_si (rv_si (rv_si (rv_si (rv_si (rv_si (rv_si (rv_si (rv_si (rv_si (rv_si (rv_si (rv_si (rv_si (rv_si (rv_si (rv_si (F.2.1 3970 68 rfl rfl))))))))))))))))))))))))))))))))) ?_
  refine x_iload (x := a5) rfl rfl ?_
  refine x_inv (N := m_X9_append) (As := [.int a5]) (b := 68) (st := []) (d' := 99) (mc := 0) (ms := 0) (host := "") 9 rfl t_X9_append ⟨Or.inl q_11_102, i_X9_append.1, i_X9_append.2⟩ ⟨by decide, rfl⟩ (congrArg Prod.fst (sh_si (sh_si (sh_si (sh_si (sh_si (sh_si (sh_si (sh_si (sh_si (sh_si (sh_si (sh_si (sh_si (sh_si (sh_si (sh_si (sh_si (sh_si (sh_si (sh_si (sh_si (sh_si (sh_si (sh_si (sh_si (sh_si (sh_si (sh_si (sh_si (sh_si (sh_si (sh_si (F.1 68 (9, 6) rfl rfl)))))))))))))))))))))))))))))))))) rfl (by decide) rfl rfl ⟨by decide, by decide⟩ (jC.of rfl k_X9_append rfl ?_)
  show jX m_X9_append 99 0 0 0 [(0, .ref 68), (1, .int a5)] [] _ 0 0 _
  refine x_bipush (v := 24) rfl kb_24 ?_
  refine x_istoren (ls' := [(2, .int 24), (0, .ref 68), (1, .int a5)]) rfl rfl rfl ?_
  refine x_iloadn (x := 24) rfl rfl ?_
  refine x_iflt (tgt := 49) rfl rfl (br_f (by decide) ?_)
  refine x_aloadn (x := 68) rfl rfl ?_
  refine y_getI (v := 16) 9 1 rfl f_9_15 rfl (congrArg Prod.fst (sh_si (sh_si (sh_si (sh_si (sh_si (sh_si (sh_si (sh_si (sh_si (sh_si (sh_si (sh_si (sh_si (sh_si (sh_si (sh_si (sh_si (sh_si (sh_si (sh_si (sh_si (sh_si (sh_si (sh_si (sh_si (sh_si (sh_si (sh_si (sh_si (sh_si (sh_si (sh_si (F.1 68 (9, 6) rfl rfl)))))))))))))))))))))))))))))))))) iv_eq ?_
  refine x_sipush (v := 400) rfl ks_400 ?_
  refine x_icge (tgt := 49) rfl rfl (br_f (by decide) ?_)
  refine x_aloadn (x := 68) rfl rfl ?_
  refine x_getR (b := 69) 9 0 rfl f_9_11 rfl (congrArg Prod.fst (sh_si (sh_si (sh_si (sh_si (sh_si (sh_si (sh_si (sh_si (sh_si (sh_si (sh_si (sh_si (sh_si (sh_si (sh_si (sh_si (sh_si (sh_si (sh_si (sh_si (sh_si (sh_si (sh_si (sh_si (sh_si (sh_si (sh_si (sh_si (sh_si (sh_si (sh_si (sh_si (F.1 68 (9, 6) rfl rfl)))))))))))))))))))))))))))))))))) (rv_si (rv_si (rv_si (rv_si (rv_si (rv_si (rv_si (rv_si (rv_si (rv_si (rv_si (rv_si (rv_si (rv_si (rv_si (rv_si (rv_si (rv_si (rv_si (rv_si (rv_si (rv_si (rv_si (rv_si (rv_si (rv_si (rv_si (rv_si (rv_si (rv_si (rv_si (rv_si (F.2.1 8704 69 rfl rfl))))))))))))))))))))))))))))))))) ?_
  refine x_aloadn (x := 68) rfl rfl ?_
  refine y_getI (v := 16) 9 1 rfl f_9_15 rfl (congrArg Prod.fst (sh_si (sh_si (sh_si (sh_si (sh_si (sh_si (sh_si (sh_si (sh_si (sh_si (sh_si (sh_si (sh_si (sh_si (sh_si (sh_si (sh_si (sh_si (sh_si (sh_si (sh_si (sh_si (sh_si (sh_si (sh_si (sh_si (sh_si (sh_si (sh_si (sh_si (sh_si (sh_si (F.1 68 (9, 6) rfl rfl)))))))))))))))))))))))))))))))))) iv_eq ?_
  refine x_iloadn (x := a5) rfl rfl ?_
  refine x_iloadn (x := 24) rfl rfl ?_
  refine x_iushr rfl ?_
  refine x_sipush (v := 255) rfl ks_255 ?_
  refine x_iand rfl ?_
  refine y_iast (N := 400) 16 rfl (sh_si (sh_si (sh_si (sh_si (sh_si (sh_si (sh_si (sh_si (sh_si (sh_si (sh_si (sh_si (sh_si (sh_si (sh_si (sh_si (sh_si (sh_si (sh_si (sh_si (sh_si (sh_si (sh_si (sh_si (sh_si (sh_si (sh_si (sh_si (sh_si (sh_si (sh_si (sh_si (F.1 69 (100, 400) rfl rfl))))))))))))))))))))))))))))))))) rfl (jinb_of (by decide)) (by decide) ?_
  refine x_aloadn (x := 68) rfl rfl ?_
  refine x_dup rfl rfl ?_
  refine y_getI (v := 16) 9 1 rfl f_9_15 rfl (congrArg Prod.fst (sh_si (sh_si (sh_si (sh_si (sh_si (sh_si (sh_si (sh_si (sh_si (sh_si (sh_si (sh_si (sh_si (sh_si (sh_si (sh_si (sh_si (sh_si (sh_si (sh_si (sh_si (sh_si (sh_si (sh_si (sh_si (sh_si (sh_si (sh_si (sh_si (sh_si (sh_si (sh_si (sh_si (F.1 68 (9, 6) rfl rfl))))))))))))))))))))))))))))))))))) (iv_si rfl iv_eq) ?_
  refine x_iconst (v := 1) rfl ki_1 ?_
  refine y_iadd (v := 17) rfl (by decide) ?_
  refine x_putI 9 1 rfl f_9_15 rfl (jfin_no TX9 RX9 6 rfl rfl) (congrArg Prod.fst (sh_si (sh_si (sh_si (sh_si (sh_si (sh_si (sh_si (sh_si (sh_si (sh_si (sh_si (sh_si (sh_si (sh_si (sh_si (sh_si (sh_si (sh_si (sh_si (sh_si (sh_si (sh_si (sh_si (sh_si (sh_si (sh_si (sh_si (sh_si (sh_si (sh_si (sh_si (sh_si (sh_si (F.1 68 (9, 6) rfl rfl))))))))))))))))))))))))))))))))))) rfl ?_
  refine x_iinc (x := 24) (v := 16) (ls' := [(2, .int 16), (0, .ref 68), (1, .int a5)]) rfl rfl (by decide) rfl rfl ?_
  refine x_goto (tgt := 3) rfl rfl ?_
  refine x_iloadn (x := 16) rfl rfl ?_
  refine x_iflt (tgt := 49) rfl rfl (br_f (by decide) ?_)
  refine x_aloadn (x := 68) rfl rfl ?_
  refine y_getI (v := 17) 9 1 rfl f_9_15 rfl (congrArg Prod.fst (sh_si (sh_si (sh_si (sh_si (sh_si (sh_si (sh_si (sh_si (sh_si (sh_si (sh_si (sh_si (sh_si (sh_si (sh_si (sh_si (sh_si (sh_si (sh_si (sh_si (sh_si (sh_si (sh_si (sh_si (sh_si (sh_si (sh_si (sh_si (sh_si (sh_si (sh_si (sh_si (sh_si (sh_si (F.1 68 (9, 6) rfl rfl)))))))))))))))))))))))))))))))))))) iv_eq ?_
  refine x_sipush (v := 400) rfl ks_400 ?_
  refine x_icge (tgt := 49) rfl rfl (br_f (by decide) ?_)
  refine x_aloadn (x := 68) rfl rfl ?_
  refine x_getR (b := 69) 9 0 rfl f_9_11 rfl (congrArg Prod.fst (sh_si (sh_si (sh_si (sh_si (sh_si (sh_si (sh_si (sh_si (sh_si (sh_si (sh_si (sh_si (sh_si (sh_si (sh_si (sh_si (sh_si (sh_si (sh_si (sh_si (sh_si (sh_si (sh_si (sh_si (sh_si (sh_si (sh_si (sh_si (sh_si (sh_si (sh_si (sh_si (sh_si (sh_si (F.1 68 (9, 6) rfl rfl)))))))))))))))))))))))))))))))))))) (rv_si (rv_si (rv_si (rv_si (rv_si (rv_si (rv_si (rv_si (rv_si (rv_si (rv_si (rv_si (rv_si (rv_si (rv_si (rv_si (rv_si (rv_si (rv_si (rv_si (rv_si (rv_si (rv_si (rv_si (rv_si (rv_si (rv_si (rv_si (rv_si (rv_si (rv_si (rv_si (rv_si (rv_si (F.2.1 8704 69 rfl rfl))))))))))))))))))))))))))))))))))) ?_
  refine x_aloadn (x := 68) rfl rfl ?_
  refine y_getI (v := 17) 9 1 rfl f_9_15 rfl (congrArg Prod.fst (sh_si (sh_si (sh_si (sh_si (sh_si (sh_si (sh_si (sh_si (sh_si (sh_si (sh_si (sh_si (sh_si (sh_si (sh_si (sh_si (sh_si (sh_si (sh_si (sh_si (sh_si (sh_si (sh_si (sh_si (sh_si (sh_si (sh_si (sh_si (sh_si (sh_si (sh_si (sh_si (sh_si (sh_si (F.1 68 (9, 6) rfl rfl)))))))))))))))))))))))))))))))))))) iv_eq ?_
  refine x_iloadn (x := a5) rfl rfl ?_
  refine x_iloadn (x := 16) rfl rfl ?_
  refine x_iushr rfl ?_
  refine x_sipush (v := 255) rfl ks_255 ?_
  refine x_iand rfl ?_
  refine y_iast (N := 400) 17 rfl (sh_si (sh_si (sh_si (sh_si (sh_si (sh_si (sh_si (sh_si (sh_si (sh_si (sh_si (sh_si (sh_si (sh_si (sh_si (sh_si (sh_si (sh_si (sh_si (sh_si (sh_si (sh_si (sh_si (sh_si (sh_si (sh_si (sh_si (sh_si (sh_si (sh_si (sh_si (sh_si (sh_si (sh_si (F.1 69 (100, 400) rfl rfl))))))))))))))))))))))))))))))))))) rfl (jinb_of (by decide)) (by decide) ?_
  refine x_aloadn (x := 68) rfl rfl ?_
  refine x_dup rfl rfl ?_
  refine y_getI (v := 17) 9 1 rfl f_9_15 rfl (congrArg Prod.fst (sh_si (sh_si (sh_si (sh_si (sh_si (sh_si (sh_si (sh_si (sh_si (sh_si (sh_si (sh_si (sh_si (sh_si (sh_si (sh_si (sh_si (sh_si (sh_si (sh_si (sh_si (sh_si (sh_si (sh_si (sh_si (sh_si (sh_si (sh_si (sh_si (sh_si (sh_si (sh_si (sh_si (sh_si (sh_si (F.1 68 (9, 6) rfl rfl))))))))))))))))))))))))))))))))))))) (iv_si rfl iv_eq) ?_
  refine x_iconst (v := 1) rfl ki_1 ?_
  refine y_iadd (v := 18) rfl (by decide) ?_
  refine x_putI 9 1 rfl f_9_15 rfl (jfin_no TX9 RX9 6 rfl rfl) (congrArg Prod.fst (sh_si (sh_si (sh_si (sh_si (sh_si (sh_si (sh_si (sh_si (sh_si (sh_si (sh_si (sh_si (sh_si (sh_si (sh_si (sh_si (sh_si (sh_si (sh_si (sh_si (sh_si (sh_si (sh_si (sh_si (sh_si (sh_si (sh_si (sh_si (sh_si (sh_si (sh_si (sh_si (sh_si (sh_si (sh_si (F.1 68 (9, 6) rfl rfl))))))))))))))))))))))))))))))))))))) rfl ?_
  refine x_iinc (x := 16) (v := 8) (ls' := [(2, .int 8), (0, .ref 68), (1, .int a5)]) rfl rfl (by decide) rfl rfl ?_
  refine x_goto (tgt := 3) rfl rfl ?_
  refine x_iloadn (x := 8) rfl rfl ?_
  refine x_iflt (tgt := 49) rfl rfl (br_f (by decide) ?_)
  refine x_aloadn (x := 68) rfl rfl ?_
  refine y_getI (v := 18) 9 1 rfl f_9_15 rfl (congrArg Prod.fst (sh_si (sh_si (sh_si (sh_si (sh_si (sh_si (sh_si (sh_si (sh_si (sh_si (sh_si (sh_si (sh_si (sh_si (sh_si (sh_si (sh_si (sh_si (sh_si (sh_si (sh_si (sh_si (sh_si (sh_si (sh_si (sh_si (sh_si (sh_si (sh_si (sh_si (sh_si (sh_si (sh_si (sh_si (sh_si (sh_si (F.1 68 (9, 6) rfl rfl)))))))))))))))))))))))))))))))))))))) iv_eq ?_
  refine x_sipush (v := 400) rfl ks_400 ?_
  refine x_icge (tgt := 49) rfl rfl (br_f (by decide) ?_)
  refine x_aloadn (x := 68) rfl rfl ?_
  refine x_getR (b := 69) 9 0 rfl f_9_11 rfl (congrArg Prod.fst (sh_si (sh_si (sh_si (sh_si (sh_si (sh_si (sh_si (sh_si (sh_si (sh_si (sh_si (sh_si (sh_si (sh_si (sh_si (sh_si (sh_si (sh_si (sh_si (sh_si (sh_si (sh_si (sh_si (sh_si (sh_si (sh_si (sh_si (sh_si (sh_si (sh_si (sh_si (sh_si (sh_si (sh_si (sh_si (sh_si (F.1 68 (9, 6) rfl rfl)))))))))))))))))))))))))))))))))))))) (rv_si (rv_si (rv_si (rv_si (rv_si (rv_si (rv_si (rv_si (rv_si (rv_si (rv_si (rv_si (rv_si (rv_si (rv_si (rv_si (rv_si (rv_si (rv_si (rv_si (rv_si (rv_si (rv_si (rv_si (rv_si (rv_si (rv_si (rv_si (rv_si (rv_si (rv_si (rv_si (rv_si (rv_si (rv_si (rv_si (F.2.1 8704 69 rfl rfl))))))))))))))))))))))))))))))))))))) ?_
  refine x_aloadn (x := 68) rfl rfl ?_
  refine y_getI (v := 18) 9 1 rfl f_9_15 rfl (congrArg Prod.fst (sh_si (sh_si (sh_si (sh_si (sh_si (sh_si (sh_si (sh_si (sh_si (sh_si (sh_si (sh_si (sh_si (sh_si (sh_si (sh_si (sh_si (sh_si (sh_si (sh_si (sh_si (sh_si (sh_si (sh_si (sh_si (sh_si (sh_si (sh_si (sh_si (sh_si (sh_si (sh_si (sh_si (sh_si (sh_si (sh_si (F.1 68 (9, 6) rfl rfl)))))))))))))))))))))))))))))))))))))) iv_eq ?_
  refine x_iloadn (x := a5) rfl rfl ?_
  refine x_iloadn (x := 8) rfl rfl ?_
  refine x_iushr rfl ?_
  refine x_sipush (v := 255) rfl ks_255 ?_
  refine x_iand rfl ?_
  refine y_iast (N := 400) 18 rfl (sh_si (sh_si (sh_si (sh_si (sh_si (sh_si (sh_si (sh_si (sh_si (sh_si (sh_si (sh_si (sh_si (sh_si (sh_si (sh_si (sh_si (sh_si (sh_si (sh_si (sh_si (sh_si (sh_si (sh_si (sh_si (sh_si (sh_si (sh_si (sh_si (sh_si (sh_si (sh_si (sh_si (sh_si (sh_si (sh_si (F.1 69 (100, 400) rfl rfl))))))))))))))))))))))))))))))))))))) rfl (jinb_of (by decide)) (by decide) ?_
  refine x_aloadn (x := 68) rfl rfl ?_
  refine x_dup rfl rfl ?_
  refine y_getI (v := 18) 9 1 rfl f_9_15 rfl (congrArg Prod.fst (sh_si (sh_si (sh_si (sh_si (sh_si (sh_si (sh_si (sh_si (sh_si (sh_si (sh_si (sh_si (sh_si (sh_si (sh_si (sh_si (sh_si (sh_si (sh_si (sh_si (sh_si (sh_si (sh_si (sh_si (sh_si (sh_si (sh_si (sh_si (sh_si (sh_si (sh_si (sh_si (sh_si (sh_si (sh_si (sh_si (sh_si (F.1 68 (9, 6) rfl rfl))))))))))))))))))))))))))))))))))))))) (iv_si rfl iv_eq) ?_
  refine x_iconst (v := 1) rfl ki_1 ?_
  refine y_iadd (v := 19) rfl (by decide) ?_
  refine x_putI 9 1 rfl f_9_15 rfl (jfin_no TX9 RX9 6 rfl rfl) (congrArg Prod.fst (sh_si (sh_si (sh_si (sh_si (sh_si (sh_si (sh_si (sh_si (sh_si (sh_si (sh_si (sh_si (sh_si (sh_si (sh_si (sh_si (sh_si (sh_si (sh_si (sh_si (sh_si (sh_si (sh_si (sh_si (sh_si (sh_si (sh_si (sh_si (sh_si (sh_si (sh_si (sh_si (sh_si (sh_si (sh_si (sh_si (sh_si (F.1 68 (9, 6) rfl rfl))))))))))))))))))))))))))))))))))))))) rfl ?_
  refine x_iinc (x := 8) (v := 0) (ls' := [(2, .int 0), (0, .ref 68), (1, .int a5)]) rfl rfl (by decide) rfl rfl ?_
  refine x_goto (tgt := 3) rfl rfl ?_
  refine x_iloadn (x := 0) rfl rfl ?_
  refine x_iflt (tgt := 49) rfl rfl (br_f (by decide) ?_)
  refine x_aloadn (x := 68) rfl rfl ?_
  refine y_getI (v := 19) 9 1 rfl f_9_15 rfl (congrArg Prod.fst (sh_si (sh_si (sh_si (sh_si (sh_si (sh_si (sh_si (sh_si (sh_si (sh_si (sh_si (sh_si (sh_si (sh_si (sh_si (sh_si (sh_si (sh_si (sh_si (sh_si (sh_si (sh_si (sh_si (sh_si (sh_si (sh_si (sh_si (sh_si (sh_si (sh_si (sh_si (sh_si (sh_si (sh_si (sh_si (sh_si (sh_si (sh_si (F.1 68 (9, 6) rfl rfl)))))))))))))))))))))))))))))))))))))))) iv_eq ?_
  refine x_sipush (v := 400) rfl ks_400 ?_
  refine x_icge (tgt := 49) rfl rfl (br_f (by decide) ?_)
  refine x_aloadn (x := 68) rfl rfl ?_
  refine x_getR (b := 69) 9 0 rfl f_9_11 rfl (congrArg Prod.fst (sh_si (sh_si (sh_si (sh_si (sh_si (sh_si (sh_si (sh_si (sh_si (sh_si (sh_si (sh_si (sh_si (sh_si (sh_si (sh_si (sh_si (sh_si (sh_si (sh_si (sh_si (sh_si (sh_si (sh_si (sh_si (sh_si (sh_si (sh_si (sh_si (sh_si (sh_si (sh_si (sh_si (sh_si (sh_si (sh_si (sh_si (sh_si (F.1 68 (9, 6) rfl rfl)))))))))))))))))))))))))))))))))))))))) (rv_si (rv_si (rv_si (rv_si (rv_si (rv_si (rv_si (rv_si (rv_si (rv_si (rv_si (rv_si (rv_si (rv_si (rv_si (rv_si (rv_si (rv_si (rv_si (rv_si (rv_si (rv_si (rv_si (rv_si (rv_si (rv_si (rv_si (rv_si (rv_si (rv_si (rv_si (rv_si (rv_si (rv_si (rv_si (rv_si (rv_si (rv_si (F.2.1 8704 69 rfl rfl))))))))))))))))))))))))))))))))))))))) ?_
  refine x_aloadn (x := 68) rfl rfl ?_
  refine y_getI (v := 19) 9 1 rfl f_9_15 rfl (congrArg Prod.fst (sh_si (sh_si (sh_si (sh_si (sh_si (sh_si (sh_si (sh_si (sh_si (sh_si (sh_si (sh_si (sh_si (sh_si (sh_si (sh_si (sh_si (sh_si (sh_si (sh_si (sh_si (sh_si (sh_si (sh_si (sh_si (sh_si (sh_si (sh_si (sh_si (sh_si (sh_si (sh_si (sh_si (sh_si (sh_si (sh_si (sh_si (sh_si (F.1 68 (9, 6) rfl rfl)))))))))))))))))))))))))))))))))))))))) iv_eq ?_
  refine x_iloadn (x := a5) rfl rfl ?_
  refine x_iloadn (x := 0) rfl rfl ?_
  refine x_iushr rfl ?_
  refine x_sipush (v := 255) rfl ks_255 ?_
  refine x_iand rfl ?_
  refine y_iast (N := 400) 19 rfl (sh_si (sh_si (sh_si (sh_si (sh_si (sh_si (sh_si (sh_si (sh_si (sh_si (sh_si (sh_si (sh_si (sh_si (sh_si (sh_si (sh_si (sh_si (sh_si (sh_si (sh_si (sh_si (sh_si (sh_si (sh_si (sh_si (sh_si (sh_si (sh_si (sh_si (sh_si (sh_si (sh_si (sh_si (sh_si (sh_si (sh_si (sh_si (F.1 69 (100, 400) rfl rfl))))))))))))))))))))))))))))))))))))))) rfl (jinb_of (by decide)) (by decide) ?_
  refine x_aloadn (x := 68) rfl rfl ?_
  refine x_dup rfl rfl ?_
  refine y_getI (v := 19) 9 1 rfl f_9_15 rfl (congrArg Prod.fst (sh_si (sh_si (sh_si (sh_si (sh_si (sh_si (sh_si (sh_si (sh_si (sh_si (sh_si (sh_si (sh_si (sh_si (sh_si (sh_si (sh_si (sh_si (sh_si (sh_si (sh_si (sh_si (sh_si (sh_si (sh_si (sh_si (sh_si (sh_si (sh_si (sh_si (sh_si (sh_si (sh_si (sh_si (sh_si (sh_si (sh_si (sh_si (sh_si (F.1 68 (9, 6) rfl rfl))))))))))))))))))))))))))))))))))))))))) (iv_si rfl iv_eq) ?_
  refine x_iconst (v := 1) rfl ki_1 ?_
  refine y_iadd (v := 20) rfl (by decide) ?_
  refine x_putI 9 1 rfl f_9_15 rfl (jfin_no TX9 RX9 6 rfl rfl) (congrArg Prod.fst (sh_si (sh_si (sh_si (sh_si (sh_si (sh_si (sh_si (sh_si (sh_si (sh_si (sh_si (sh_si (sh_si (sh_si (sh_si (sh_si (sh_si (sh_si (sh_si (sh_si (sh_si (sh_si (sh_si (sh_si (sh_si (sh_si (sh_si (sh_si (sh_si (sh_si (sh_si (sh_si (sh_si (sh_si (sh_si (sh_si (sh_si (sh_si (sh_si (F.1 68 (9, 6) rfl rfl))))))))))))))))))))))))))))))))))))))))) rfl ?_
  refine x_iinc (x := 0) (v := (-8)) (ls' := [(2, .int (-8)), (0, .ref 68), (1, .int a5)]) rfl rfl (by decide) rfl rfl ?_
  refine x_goto (tgt := 3) rfl rfl ?_
  refine x_iloadn (x := (-8)) rfl rfl ?_
  refine x_iflt (tgt := 49) rfl rfl (br_t (by decide) ?_)
  refine x_vret rfl rfl ?_
  show jX m_X11_feed 100 0 0 56 [(0, .ref 31), (1, .int a1), (2, .int a2), (3, .int a3), (4, .int a4), (5, .int a5)] [] _ 0 0 _
  refine x_aloadn (x := 31) rfl rfl ?_
  refine x_getR (b := 68) 11 2 rfl f_11_23 rfl (congrArg Prod.fst (sh_si (sh_si (sh_si (sh_si (sh_si (sh_si (sh_si (sh_si (sh_si (sh_si (sh_si (sh_si (sh_si (sh_si (sh_si (sh_si (sh_si (sh_si (sh_si (sh_si (sh_si (sh_si (sh_si (sh_si (sh_si (sh_si (sh_si (sh_si (sh_si (sh_si (sh_si (sh_si (sh_si (sh_si (sh_si (sh_si (sh_si (sh_si (sh_si (sh_si (F.1 31 (11, 13) rfl rfl)))))))))))))))))))))))))))))))))))))))))) (rv_si (rv_si (rv_si (rv_si (rv_si (rv_si (rv_si (rv_si (rv_si (rv_si (rv_si (rv_si (rv_si (rv_si (rv_si (rv_si (rv_si (rv_si (rv_si (rv_si (rv_si (rv_si (rv_si (rv_si (rv_si (rv_si (rv_si (rv_si (rv_si (rv_si (rv_si (rv_si (rv_si (rv_si (rv_si (rv_si (rv_si (rv_si (rv_si (rv_si (F.2.1 3970 68 rfl rfl))))))))))))))))))))))))))))))))))))))))) ?_
  refine y_getI (v := 20) 9 1 rfl f_11_106 rfl (congrArg Prod.fst (sh_si (sh_si (sh_si (sh_si (sh_si (sh_si (sh_si (sh_si (sh_si (sh_si (sh_si (sh_si (sh_si (sh_si (sh_si (sh_si (sh_si (sh_si (sh_si (sh_si (sh_si (sh_si (sh_si (sh_si (sh_si (sh_si (sh_si (sh_si (sh_si (sh_si (sh_si (sh_si (sh_si (sh_si (sh_si (sh_si (sh_si (sh_si (sh_si (sh_si (F.1 68 (9, 6) rfl rfl)))))))))))))))))))))))))))))))))))))))))) iv_eq ?_
  refine x_iret rfl rfl ?_
  exact jqe (show sp_feed a1 a2 a3 a4 a5 = 20 by unfold sp_feed; (repeat' split) <;> first | rfl | (exfalso; omega)) (hQ _ (jFb_si rfl (jFb_si rfl (jFb_si rfl (jFb_si rfl (jFb_si rfl (jFb_si rfl (jFb_si rfl (jFb_si rfl (jFb_si rfl (jFb_si rfl (jFb_si rfl (jFb_si rfl (jFb_si rfl (jFb_si rfl (jFb_si rfl (jFb_si rfl (jFb_si rfl (jFb_si rfl (jFb_si rfl (jFb_si rfl (jFb_si rfl (jFb_si rfl (jFb_si rfl (jFb_si rfl (jFb_si rfl (jFb_si rfl (jFb_si rfl (jFb_si rfl (jFb_si rfl (jFb_si rfl (jFb_si rfl (jFb_si rfl (jFb_si rfl (jFb_si rfl (jFb_si rfl (jFb_si rfl (jFb_si rfl (jFb_si rfl (jFb_si rfl (jFb_si rfl FM)))))))))))))))))))))))))))))))))))))))) (jOl_si rfl (jOl_si rfl (jOl_si rfl (jOl_si rfl (jOl_si rfl (jOl_si rfl (jOl_si rfl (jOl_si rfl (jOl_si rfl (jOl_si rfl (jOl_si rfl (jOl_si rfl (jOl_si rfl (jOl_si rfl (jOl_si rfl (jOl_si rfl (jOl_si rfl (jOl_si rfl (jOl_si rfl (jOl_si rfl (jOl_si rfl (jOl_si rfl (jOl_si rfl (jOl_si rfl (jOl_si rfl (jOl_si rfl (jOl_si rfl (jOl_si rfl (jOl_si rfl (jOl_si rfl (jOl_si rfl (jOl_si rfl (jOl_si rfl (jOl_si rfl (jOl_si rfl (jOl_si rfl (jOl_si rfl (jOl_si rfl (jOl_si rfl (jOl_si rfl O)))))))))))))))))))))))))))))))))))))))))
set_option maxRecDepth 100000 in
set_option maxHeartbeats 40000000 in
theorem pm_feed (a1 a2 a3 a4 a5 : Int32) {xs : Nat → Int32} {h : jH} {Q : Option Value → jH → Prop} (F : jFb 125 h) (O : jOl 7 xs h) (hQ : ∀ h', jOl 7 xs h' → Q (some (.int (sp_feed a1 a2 a3 a4 a5))) h') : jC m_X12_feed 100 0 0 [.ref 125, .int a1, .int a2, .int a3, .int a4, .int a5] h Q := by
  refine jC.of rfl k_X12_feed rfl ?_
  show jX m_X12_feed 100 0 0 0 [(0, .ref 125), (1, .int a1), (2, .int a2), (3, .int a3), (4, .int a4), (5, .int a5)] [] _ 0 0 _
  refine x_aloadn (x := 125) rfl rfl ?_
  refine x_iconst (v := 0) rfl ki_0 ?_
  refine x_putI 12 0 rfl f_12_180 rfl (jfin_no TX12 RX12 92 rfl rfl) (congrArg Prod.fst (F.1 125 (12, 92) rfl rfl)) rfl ?_
  refine x_aloadn (x := 125) rfl rfl ?_
  refine y_getI (v := 0) 12 8 rfl f_12_201 rfl (congrArg Prod.fst (sh_si (F.1 125 (12, 92) rfl rfl))) (iv_si rfl (F.2.2.1 16008 0 rfl rfl)) ?_
  refine x_bipush (v := 20) rfl kb_20 ?_
  refine y_iadd (v := 20) rfl (by decide) ?_
  refine x_sipush (v := 400) rfl ks_400 ?_
  refine x_icle (tgt := 20) rfl rfl (br_t (by decide) ?_)
  refine x_aloadn (x := 125) rfl rfl ?_
  refine x_iloadn (x := a1) rfl rfl ?_
  refine x_inv (N := m_X12_four) (As := [.int a1]) (b := 125) (st := []) (d' := 99) (mc := 0) (ms := 0) (host := "") 12 rfl t_X12_four ⟨Or.inl q_12_207, i_X12_four.1, i_X12_four.2⟩ ⟨by decide, rfl⟩ (congrArg Prod.fst (sh_si (F.1 125 (12, 92) rfl rfl))) rfl (by decide) rfl rfl ⟨by decide, by decide⟩ (jC.of rfl k_X12_four rfl ?_)
  show jX m_X12_four 99 0 0 0 [(0, .ref 125), (1, .int a1)] [] _ 0 0 _
  refine x_bipush (v := 24) rfl kb_24 ?_
  refine x_istoren (ls' := [(2, .int 24), (0, .ref 125), (1, .int a1)]) rfl rfl rfl ?_
  refine x_iloadn (x := 24) rfl rfl ?_
  refine x_iflt (tgt := 39) rfl rfl (br_f (by decide) ?_)
  refine x_aloadn (x := 125) rfl rfl ?_
  refine x_getR (b := 131) 12 7 rfl f_12_29 rfl (congrArg Prod.fst (sh_si (F.1 125 (12, 92) rfl rfl))) (rv_si (F.2.1 16007 131 rfl rfl)) ?_
  refine x_aloadn (x := 125) rfl rfl ?_
  refine y_getI (v := 0) 12 8 rfl f_12_201 rfl (congrArg Prod.fst (sh_si (F.1 125 (12, 92) rfl rfl))) (iv_si rfl (F.2.2.1 16008 0 rfl rfl)) ?_
  refine x_iloadn (x := a1) rfl rfl ?_
  refine x_iloadn (x := 24) rfl rfl ?_
  refine x_ishr rfl ?_
  refine x_sipush (v := 255) rfl ks_255 ?_
  refine x_iand rfl ?_
  refine y_iast (N := 400) 0 rfl (sh_si (F.1 131 (100, 400) rfl rfl)) rfl (jinb_of (by decide)) (by decide) ?_
  refine x_aloadn (x := 125) rfl rfl ?_
  refine x_dup rfl rfl ?_
  refine y_getI (v := 0) 12 8 rfl f_12_201 rfl (congrArg Prod.fst (sh_si (sh_si (F.1 125 (12, 92) rfl rfl)))) (iv_si rfl (iv_si rfl (F.2.2.1 16008 0 rfl rfl))) ?_
  refine x_iconst (v := 1) rfl ki_1 ?_
  refine y_iadd (v := 1) rfl (by decide) ?_
  refine x_putI 12 8 rfl f_12_201 rfl (jfin_no TX12 RX12 92 rfl rfl) (congrArg Prod.fst (sh_si (sh_si (F.1 125 (12, 92) rfl rfl)))) rfl ?_
  refine x_iinc (x := 24) (v := 16) (ls' := [(2, .int 16), (0, .ref 125), (1, .int a1)]) rfl rfl (by decide) rfl rfl ?_
  refine x_goto (tgt := 3) rfl rfl ?_
  refine x_iloadn (x := 16) rfl rfl ?_
  refine x_iflt (tgt := 39) rfl rfl (br_f (by decide) ?_)
  refine x_aloadn (x := 125) rfl rfl ?_
  refine x_getR (b := 131) 12 7 rfl f_12_29 rfl (congrArg Prod.fst (sh_si (sh_si (sh_si (F.1 125 (12, 92) rfl rfl))))) (rv_si (rv_si (rv_si (F.2.1 16007 131 rfl rfl)))) ?_
  refine x_aloadn (x := 125) rfl rfl ?_
  refine y_getI (v := 1) 12 8 rfl f_12_201 rfl (congrArg Prod.fst (sh_si (sh_si (sh_si (F.1 125 (12, 92) rfl rfl))))) iv_eq ?_
  refine x_iloadn (x := a1) rfl rfl ?_
  refine x_iloadn (x := 16) rfl rfl ?_
  refine x_ishr rfl ?_
  refine x_sipush (v := 255) rfl ks_255 ?_
  refine x_iand rfl ?_
  refine y_iast (N := 400) 1 rfl (sh_si (sh_si (sh_si (F.1 131 (100, 400) rfl rfl)))) rfl (jinb_of (by decide)) (by decide) ?_
  refine x_aloadn (x := 125) rfl rfl ?_
  refine x_dup rfl rfl ?_
  refine y_getI (v := 1) 12 8 rfl f_12_201 rfl (congrArg Prod.fst (sh_si (sh_si (sh_si (sh_si (F.1 125 (12, 92) rfl rfl)))))) (iv_si rfl iv_eq) ?_
  refine x_iconst (v := 1) rfl ki_1 ?_
  refine y_iadd (v := 2) rfl (by decide) ?_
  refine x_putI 12 8 rfl f_12_201 rfl (jfin_no TX12 RX12 92 rfl rfl) (congrArg Prod.fst (sh_si (sh_si (sh_si (sh_si (F.1 125 (12, 92) rfl rfl)))))) rfl ?_
  refine x_iinc (x := 16) (v := 8) (ls' := [(2, .int 8), (0, .ref 125), (1, .int a1)]) rfl rfl (by decide) rfl rfl ?_
  refine x_goto (tgt := 3) rfl rfl ?_
  refine x_iloadn (x := 8) rfl rfl ?_
  refine x_iflt (tgt := 39) rfl rfl (br_f (by decide) ?_)
  refine x_aloadn (x := 125) rfl rfl ?_
  refine x_getR (b := 131) 12 7 rfl f_12_29 rfl (congrArg Prod.fst (sh_si (sh_si (sh_si (sh_si (sh_si (F.1 125 (12, 92) rfl rfl))))))) (rv_si (rv_si (rv_si (rv_si (rv_si (F.2.1 16007 131 rfl rfl)))))) ?_
  refine x_aloadn (x := 125) rfl rfl ?_
  refine y_getI (v := 2) 12 8 rfl f_12_201 rfl (congrArg Prod.fst (sh_si (sh_si (sh_si (sh_si (sh_si (F.1 125 (12, 92) rfl rfl))))))) iv_eq ?_
  refine x_iloadn (x := a1) rfl rfl ?_
  refine x_iloadn (x := 8) rfl rfl ?_
  refine x_ishr rfl ?_
  refine x_sipush (v := 255) rfl ks_255 ?_
  refine x_iand rfl ?_
  refine y_iast (N := 400) 2 rfl (sh_si (sh_si (sh_si (sh_si (sh_si (F.1 131 (100, 400) rfl rfl)))))) rfl (jinb_of (by decide)) (by decide) ?_
  refine x_aloadn (x := 125) rfl rfl ?_
  refine x_dup rfl rfl ?_
  refine y_getI (v := 2) 12 8 rfl f_12_201 rfl (congrArg Prod.fst (sh_si (sh_si (sh_si (sh_si (sh_si (sh_si (F.1 125 (12, 92) rfl rfl)))))))) (iv_si rfl iv_eq) ?_
  refine x_iconst (v := 1) rfl ki_1 ?_
  refine y_iadd (v := 3) rfl (by decide) ?_
  refine x_putI 12 8 rfl f_12_201 rfl (jfin_no TX12 RX12 92 rfl rfl) (congrArg Prod.fst (sh_si (sh_si (sh_si (sh_si (sh_si (sh_si (F.1 125 (12, 92) rfl rfl)))))))) rfl ?_
  refine x_iinc (x := 8) (v := 0) (ls' := [(2, .int 0), (0, .ref 125), (1, .int a1)]) rfl rfl (by decide) rfl rfl ?_
  refine x_goto (tgt := 3) rfl rfl ?_
  refine x_iloadn (x := 0) rfl rfl ?_
  refine x_iflt (tgt := 39) rfl rfl (br_f (by decide) ?_)
  refine x_aloadn (x := 125) rfl rfl ?_
  refine x_getR (b := 131) 12 7 rfl f_12_29 rfl (congrArg Prod.fst (sh_si (sh_si (sh_si (sh_si (sh_si (sh_si (sh_si (F.1 125 (12, 92) rfl rfl))))))))) (rv_si (rv_si (rv_si (rv_si (rv_si (rv_si (rv_si (F.2.1 16007 131 rfl rfl)))))))) ?_
  refine x_aloadn (x := 125) rfl rfl ?_
  refine y_getI (v := 3) 12 8 rfl f_12_201 rfl (congrArg Prod.fst (sh_si (sh_si (sh_si (sh_si (sh_si (sh_si (sh_si (F.1 125 (12, 92) rfl rfl))))))))) iv_eq ?_
  refine x_iloadn (x := a1) rfl rfl ?_
  refine x_iloadn (x := 0) rfl rfl ?_
  refine x_ishr rfl ?_
  refine x_sipush (v := 255) rfl ks_255 ?_
  refine x_iand rfl ?_
  refine y_iast (N := 400) 3 rfl (sh_si (sh_si (sh_si (sh_si (sh_si (sh_si (sh_si (F.1 131 (100, 400) rfl rfl)))))))) rfl (jinb_of (by decide)) (by decide) ?_
  refine x_aloadn (x := 125) rfl rfl ?_
  refine x_dup rfl rfl ?_
  refine y_getI (v := 3) 12 8 rfl f_12_201 rfl (congrArg Prod.fst (sh_si (sh_si (sh_si (sh_si (sh_si (sh_si (sh_si (sh_si (F.1 125 (12, 92) rfl rfl)))))))))) (iv_si rfl iv_eq) ?_
  refine x_iconst (v := 1) rfl ki_1 ?_
  refine y_iadd (v := 4) rfl (by decide) ?_
  refine x_putI 12 8 rfl f_12_201 rfl (jfin_no TX12 RX12 92 rfl rfl) (congrArg Prod.fst (sh_si (sh_si (sh_si (sh_si (sh_si (sh_si (sh_si (sh_si (F.1 125 (12, 92) rfl rfl)))))))))) rfl ?_
  refine x_iinc (x := 0) (v := (-8)) (ls' := [(2, .int (-8)), (0, .ref 125), (1, .int a1)]) rfl rfl (by decide) rfl rfl ?_
  refine x_goto (tgt := 3) rfl rfl ?_
  refine x_iloadn (x := (-8)) rfl rfl ?_
  refine x_iflt (tgt := 39) rfl rfl (br_t (by decide) ?_)
  refine x_vret rfl rfl ?_
  show jX m_X12_feed 100 0 0 25 [(0, .ref 125), (1, .int a1), (2, .int a2), (3, .int a3), (4, .int a4), (5, .int a5)] [] _ 0 0 _
  refine x_aloadn (x := 125) rfl rfl ?_
  refine x_iloadn (x := a2) rfl rfl ?_
  refine x_inv (N := m_X12_four) (As := [.int a2]) (b := 125) (st := []) (d' := 99) (mc := 0) (ms := 0) (host := "") 12 rfl t_X12_four ⟨Or.inl q_12_207, i_X12_four.1, i_X12_four.2⟩ ⟨by decide, rfl⟩ (congrArg Prod.fst (sh_si (sh_si (sh_si (sh_si (sh_si (sh_si (sh_si (sh_si (sh_si (F.1 125 (12, 92) rfl rfl))))))))))) rfl (by decide) rfl rfl ⟨by decide, by decide⟩ (jC.of rfl k_X12_four rfl ?_)
  show jX m_X12_four 99 0 0 0 [(0, .ref 125), (1, .int a2)] [] _ 0 0 _
  refine x_bipush (v := 24) rfl kb_24 ?_
  refine x_istoren (ls' := [(2, .int 24), (0, .ref 125), (1, .int a2)]) rfl rfl rfl ?_
  refine x_iloadn (x := 24) rfl rfl ?_
  refine x_iflt (tgt := 39) rfl rfl (br_f (by decide) ?_)
  refine x_aloadn (x := 125) rfl rfl ?_
  refine x_getR (b := 131) 12 7 rfl f_12_29 rfl (congrArg Prod.fst (sh_si (sh_si (sh_si (sh_si (sh_si (sh_si (sh_si (sh_si (sh_si (F.1 125 (12, 92) rfl rfl))))))))))) (rv_si (rv_si (rv_si (rv_si (rv_si (rv_si (rv_si (rv_si (rv_si (F.2.1 16007 131 rfl rfl)))))))))) ?_
  refine x_aloadn (x := 125) rfl rfl ?_
  refine y_getI (v := 4) 12 8 rfl f_12_201 rfl (congrArg Prod.fst (sh_si (sh_si (sh_si (sh_si (sh_si (sh_si (sh_si (sh_si (sh_si (F.1 125 (12, 92) rfl rfl))))))))))) iv_eq ?_
  refine x_iloadn (x := a2) rfl rfl ?_
  refine x_iloadn (x := 24) rfl rfl ?_
  refine x_ishr rfl ?_
  refine x_sipush (v := 255) rfl ks_255 ?_
  refine x_iand rfl ?_
  refine y_iast (N := 400) 4 rfl (sh_si (sh_si (sh_si (sh_si (sh_si (sh_si (sh_si (sh_si (sh_si (F.1 131 (100, 400) rfl rfl)))))))))) rfl (jinb_of (by decide)) (by decide) ?_
  refine x_aloadn (x := 125) rfl rfl ?_
  refine x_dup rfl rfl ?_
  refine y_getI (v := 4) 12 8 rfl f_12_201 rfl (congrArg Prod.fst (sh_si (sh_si (sh_si (sh_si (sh_si (sh_si (sh_si (sh_si (sh_si (sh_si (F.1 125 (12, 92) rfl rfl)))))))))))) (iv_si rfl iv_eq) ?_
  refine x_iconst (v := 1) rfl ki_1 ?_
  refine y_iadd (v := 5) rfl (by decide) ?_
  refine x_putI 12 8 rfl f_12_201 rfl (jfin_no TX12 RX12 92 rfl rfl) (congrArg Prod.fst (sh_si (sh_si (sh_si (sh_si (sh_si (sh_si (sh_si (sh_si (sh_si (sh_si (F.1 125 (12, 92) rfl rfl)))))))))))) rfl ?_
  refine x_iinc (x := 24) (v := 16) (ls' := [(2, .int 16), (0, .ref 125), (1, .int a2)]) rfl rfl (by decide) rfl rfl ?_
  refine x_goto (tgt := 3) rfl rfl ?_
  refine x_iloadn (x := 16) rfl rfl ?_
  refine x_iflt (tgt := 39) rfl rfl (br_f (by decide) ?_)
  refine x_aloadn (x := 125) rfl rfl ?_
  refine x_getR (b := 131) 12 7 rfl f_12_29 rfl (congrArg Prod.fst (sh_si (sh_si (sh_si (sh_si (sh_si (sh_si (sh_si (sh_si (sh_si (sh_si (sh_si (F.1 125 (12, 92) rfl rfl))))))))))))) (rv_si (rv_si (rv_si (rv_si (rv_si (rv_si (rv_si (rv_si (rv_si (rv_si (rv_si (F.2.1 16007 131 rfl rfl)))))))))))) ?_
  refine x_aloadn (x := 125) rfl rfl ?_
  refine y_getI (v := 5) 12 8 rfl f_12_201 rfl (congrArg Prod.fst (sh_si (sh_si (sh_si (sh_si (sh_si (sh_si (sh_si (sh_si (sh_si (sh_si (sh_si (F.1 125 (12, 92) rfl rfl))))))))))))) iv_eq ?_
  refine x_iloadn (x := a2) rfl rfl ?_
  refine x_iloadn (x := 16) rfl rfl ?_
  refine x_ishr rfl ?_
  refine x_sipush (v := 255) rfl ks_255 ?_
  refine x_iand rfl ?_
  refine y_iast (N := 400) 5 rfl (sh_si (sh_si (sh_si (sh_si (sh_si (sh_si (sh_si (sh_si (sh_si (sh_si (sh_si (F.1 131 (100, 400) rfl rfl)))))))))))) rfl (jinb_of (by decide)) (by decide) ?_
  refine x_aloadn (x := 125) rfl rfl ?_
  refine x_dup rfl rfl ?_
  refine y_getI (v := 5) 12 8 rfl f_12_201 rfl (congrArg Prod.fst (sh_si (sh_si (sh_si (sh_si (sh_si (sh_si (sh_si (sh_si (sh_si (sh_si (sh_si (sh_si (F.1 125 (12, 92) rfl rfl)))))))))))))) (iv_si rfl iv_eq) ?_
  refine x_iconst (v := 1) rfl ki_1 ?_
  refine y_iadd (v := 6) rfl (by decide) ?_
  refine x_putI 12 8 rfl f_12_201 rfl (jfin_no TX12 RX12 92 rfl rfl) (congrArg Prod.fst (sh_si (sh_si (sh_si (sh_si (sh_si (sh_si (sh_si (sh_si (sh_si (sh_si (sh_si (sh_si (F.1 125 (12, 92) rfl rfl)))))))))))))) rfl ?_
  refine x_iinc (x := 16) (v := 8) (ls' := [(2, .int 8), (0, .ref 125), (1, .int a2)]) rfl rfl (by decide) rfl rfl ?_
  refine x_goto (tgt := 3) rfl rfl ?_
  refine x_iloadn (x := 8) rfl rfl ?_
  refine x_iflt (tgt := 39) rfl rfl (br_f (by decide) ?_)
  refine x_aloadn (x := 125) rfl rfl ?_
  refine x_getR (b := 131) 12 7 rfl f_12_29 rfl (congrArg Prod.fst (sh_si (sh_si (sh_si (sh_si (sh_si (sh_si (sh_si (sh_si (sh_si (sh_si (sh_si (sh_si (sh_si (F.1 125 (12, 92) rfl rfl))))))))))))))) (rv_si (rv_si (rv_si (rv_si (rv_si (rv_si (rv_si (rv_si (rv_si (rv_si (rv_si (rv_si (rv_si (F.2.1 16007 131 rfl rfl)))))))))))))) ?_
  refine x_aloadn (x := 125) rfl rfl ?_
  refine y_getI (v := 6) 12 8 rfl f_12_201 rfl (congrArg Prod.fst (sh_si (sh_si (sh_si (sh_si (sh_si (sh_si (sh_si (sh_si (sh_si (sh_si (sh_si (sh_si (sh_si (F.1 125 (12, 92) rfl rfl))))))))))))))) iv_eq ?_
  refine x_iloadn (x := a2) rfl rfl ?_
  refine x_iloadn (x := 8) rfl rfl ?_
  refine x_ishr rfl ?_
  refine x_sipush (v := 255) rfl ks_255 ?_
  refine x_iand rfl ?_
  refine y_iast (N := 400) 6 rfl (sh_si (sh_si (sh_si (sh_si (sh_si (sh_si (sh_si (sh_si (sh_si (sh_si (sh_si (sh_si (sh_si (F.1 131 (100, 400) rfl rfl)))))))))))))) rfl (jinb_of (by decide)) (by decide) ?_
  refine x_aloadn (x := 125) rfl rfl ?_
  refine x_dup rfl rfl ?_
  refine y_getI (v := 6) 12 8 rfl f_12_201 rfl (congrArg Prod.fst (sh_si (sh_si (sh_si (sh_si (sh_si (sh_si (sh_si (sh_si (sh_si (sh_si (sh_si (sh_si (sh_si (sh_si (F.1 125 (12, 92) rfl rfl)))))))))))))))) (iv_si rfl iv_eq) ?_
  refine x_iconst (v := 1) rfl ki_1 ?_
  refine y_iadd (v := 7) rfl (by decide) ?_
  refine x_putI 12 8 rfl f_12_201 rfl (jfin_no TX12 RX12 92 rfl rfl) (congrArg Prod.fst (sh_si (sh_si (sh_si (sh_si (sh_si (sh_si (sh_si (sh_si (sh_si (sh_si (sh_si (sh_si (sh_si (sh_si (F.1 125 (12, 92) rfl rfl)))))))))))))))) rfl ?_
  refine x_iinc (x := 8) (v := 0) (ls' := [(2, .int 0), (0, .ref 125), (1, .int a2)]) rfl rfl (by decide) rfl rfl ?_
  refine x_goto (tgt := 3) rfl rfl ?_
  refine x_iloadn (x := 0) rfl rfl ?_
  refine x_iflt (tgt := 39) rfl rfl (br_f (by decide) ?_)
  refine x_aloadn (x := 125) rfl rfl ?_
  refine x_getR (b := 131) 12 7 rfl f_12_29 rfl (congrArg Prod.fst (sh_si (sh_si (sh_si (sh_si (sh_si (sh_si (sh_si (sh_si (sh_si (sh_si (sh_si (sh_si (sh_si (sh_si (sh_si (F.1 125 (12, 92) rfl rfl))))))))))))))))) (rv_si (rv_si (rv_si (rv_si (rv_si (rv_si (rv_si (rv_si (rv_si (rv_si (rv_si (rv_si (rv_si (rv_si (rv_si (F.2.1 16007 131 rfl rfl)))))))))))))))) ?_
  refine x_aloadn (x := 125) rfl rfl ?_
  refine y_getI (v := 7) 12 8 rfl f_12_201 rfl (congrArg Prod.fst (sh_si (sh_si (sh_si (sh_si (sh_si (sh_si (sh_si (sh_si (sh_si (sh_si (sh_si (sh_si (sh_si (sh_si (sh_si (F.1 125 (12, 92) rfl rfl))))))))))))))))) iv_eq ?_
  refine x_iloadn (x := a2) rfl rfl ?_
  refine x_iloadn (x := 0) rfl rfl ?_
  refine x_ishr rfl ?_
  refine x_sipush (v := 255) rfl ks_255 ?_
  refine x_iand rfl ?_
  refine y_iast (N := 400) 7 rfl (sh_si (sh_si (sh_si (sh_si (sh_si (sh_si (sh_si (sh_si (sh_si (sh_si (sh_si (sh_si (sh_si (sh_si (sh_si (F.1 131 (100, 400) rfl rfl)))))))))))))))) rfl (jinb_of (by decide)) (by decide) ?_
  refine x_aloadn (x := 125) rfl rfl ?_
  refine x_dup rfl rfl ?_
  refine y_getI (v := 7) 12 8 rfl f_12_201 rfl (congrArg Prod.fst (sh_si (sh_si (sh_si (sh_si (sh_si (sh_si (sh_si (sh_si (sh_si (sh_si (sh_si (sh_si (sh_si (sh_si (sh_si (sh_si (F.1 125 (12, 92) rfl rfl)))))))))))))))))) (iv_si rfl iv_eq) ?_
  refine x_iconst (v := 1) rfl ki_1 ?_
  refine y_iadd (v := 8) rfl (by decide) ?_
  refine x_putI 12 8 rfl f_12_201 rfl (jfin_no TX12 RX12 92 rfl rfl) (congrArg Prod.fst (sh_si (sh_si (sh_si (sh_si (sh_si (sh_si (sh_si (sh_si (sh_si (sh_si (sh_si (sh_si (sh_si (sh_si (sh_si (sh_si (F.1 125 (12, 92) rfl rfl)))))))))))))))))) rfl ?_
  refine x_iinc (x := 0) (v := (-8)) (ls' := [(2, .int (-8)), (0, .ref 125), (1, .int a2)]) rfl rfl (by decide) rfl rfl ?_
  refine x_goto (tgt := 3) rfl rfl ?_
  refine x_iloadn (x := (-8)) rfl rfl ?_
  refine x_iflt (tgt := 39) rfl rfl (br_t (by decide) ?_)
  refine x_vret rfl rfl ?_
  show jX m_X12_feed 100 0 0 30 [(0, .ref 125), (1, .int a1), (2, .int a2), (3, .int a3), (4, .int a4), (5, .int a5)] [] _ 0 0 _
  refine x_aloadn (x := 125) rfl rfl ?_
  refine x_iloadn (x := a3) rfl rfl ?_
  refine x_inv (N := m_X12_four) (As := [.int a3]) (b := 125) (st := []) (d' := 99) (mc := 0) (ms := 0) (host := "") 12 rfl t_X12_four ⟨Or.inl q_12_207, i_X12_four.1, i_X12_four.2⟩ ⟨by decide, rfl⟩ (congrArg Prod.fst (sh_si (sh_si (sh_si (sh_si (sh_si (sh_si (sh_si (sh_si (sh_si (sh_si (sh_si (sh_si (sh_si (sh_si (sh_si (sh_si (sh_si (F.1 125 (12, 92) rfl rfl))))))))))))))))))) rfl (by decide) rfl rfl ⟨by decide, by decide⟩ (jC.of rfl k_X12_four rfl ?_)
  show jX m_X12_four 99 0 0 0 [(0, .ref 125), (1, .int a3)] [] _ 0 0 _
  refine x_bipush (v := 24) rfl kb_24 ?_
  refine x_istoren (ls' := [(2, .int 24), (0, .ref 125), (1, .int a3)]) rfl rfl rfl ?_
  refine x_iloadn (x := 24) rfl rfl ?_
  refine x_iflt (tgt := 39) rfl rfl (br_f (by decide) ?_)
  refine x_aloadn (x := 125) rfl rfl ?_
  refine x_getR (b := 131) 12 7 rfl f_12_29 rfl (congrArg Prod.fst (sh_si (sh_si (sh_si (sh_si (sh_si (sh_si (sh_si (sh_si (sh_si (sh_si (sh_si (sh_si (sh_si (sh_si (sh_si (sh_si (sh_si (F.1 125 (12, 92) rfl rfl))))))))))))))))))) (rv_si (rv_si (rv_si (rv_si (rv_si (rv_si (rv_si (rv_si (rv_si (rv_si (rv_si (rv_si (rv_si (rv_si (rv_si (rv_si (rv_si (F.2.1 16007 131 rfl rfl)))))))))))))))))) ?_
  refine x_aloadn (x := 125) rfl rfl ?_
  refine y_getI (v := 8) 12 8 rfl f_12_201 rfl (congrArg Prod.fst (sh_si (sh_si (sh_si (sh_si (sh_si (sh_si (sh_si (sh_si (sh_si (sh_si (sh_si (sh_si (sh_si (sh_si (sh_si (sh_si (sh_si (F.1 125 (12, 92) rfl rfl))))))))))))))))))) iv_eq ?_
  refine x_iloadn (x := a3) rfl rfl ?_
  refine x_iloadn (x := 24) rfl rfl ?_
  refine x_ishr rfl ?_
  refine x_sipush (v := 255) rfl ks_255 ?_
  refine x_iand rfl ?_
  refine y_iast (N := 400) 8 rfl (sh_si (sh_si (sh_si (sh_si (sh_si (sh_si (sh_si (sh_si (sh_si (sh_si (sh_si (sh_si (sh_si (sh_si (sh_si (sh_si (sh_si (F.1 131 (100, 400) rfl rfl)))))))))))))))))) rfl (jinb_of (by decide)) (by decide) ?_
  refine x_aloadn (x := 125) rfl rfl ?_
  refine x_dup rfl rfl ?_
  refine y_getI (v := 8) 12 8 rfl f_12_201 rfl (congrArg Prod.fst (sh_si (sh_si (sh_si (sh_si (sh_si (sh_si (sh_si (sh_si (sh_si (sh_si (sh_si (sh_si (sh_si (sh_si (sh_si (sh_si (sh_si (sh_si (F.1 125 (12, 92) rfl rfl)))))))))))))))))))) (iv_si rfl iv_eq) ?_
  refine x_iconst (v := 1) rfl ki_1 ?_
  refine y_iadd (v := 9) rfl (by decide) ?_
  refine x_putI 12 8 rfl f_12_201 rfl (jfin_no TX12 RX12 92 rfl rfl) (congrArg Prod.fst (sh_si (sh_si (sh_si (sh_si (sh_si (sh_si (sh_si (sh_si (sh_si (sh_si (sh_si (sh_si (sh_si (sh_si (sh_si (sh_si (sh_si (sh_si (F.1 125 (12, 92) rfl rfl)))))))))))))))))))) rfl ?_
  refine x_iinc (x := 24) (v := 16) (ls' := [(2, .int 16), (0, .ref 125), (1, .int a3)]) rfl rfl (by decide) rfl rfl ?_
  refine x_goto (tgt := 3) rfl rfl ?_
  refine x_iloadn (x := 16) rfl rfl ?_
  refine x_iflt (tgt := 39) rfl rfl (br_f (by decide) ?_)
  refine x_aloadn (x := 125) rfl rfl ?_
  refine x_getR (b := 131) 12 7 rfl f_12_29 rfl (congrArg Prod.fst (sh_si (sh_si (sh_si (sh_si (sh_si (sh_si (sh_si (sh_si (sh_si (sh_si (sh_si (sh_si (sh_si (sh_si (sh_si (sh_si (sh_si (sh_si (sh_si (F.1 125 (12, 92) rfl rfl))))))))))))))))))))) (rv_si (rv_si (rv_si (rv_si (rv_si (rv_si (rv_si (rv_si (rv_si (rv_si (rv_si (rv_si (rv_si (rv_si (rv_si (rv_si (rv_si (rv_si (rv_si (F.2.1 16007 131 rfl rfl)))))))))))))))))))) ?_
  refine x_aloadn (x := 125) rfl rfl ?_
  refine y_getI (v := 9) 12 8 rfl f_12_201 rfl (congrArg Prod.fst (sh_si (sh_si (sh_si (sh_si (sh_si (sh_si (sh_si (sh_si (sh_si (sh_si (sh_si (sh_si (sh_si (sh_si (sh_si (sh_si (sh_si (sh_si (sh_si (F.1 125 (12, 92) rfl rfl))))))))))))))))))))) iv_eq ?_
  refine x_iloadn (x := a3) rfl rfl ?_
  refine x_iloadn (x := 16) rfl rfl ?_
  refine x_ishr rfl ?_
  refine x_sipush (v := 255) rfl ks_255 ?_
  refine x_iand rfl ?_
  refine y_iast (N := 400) 9 rfl (sh_si (sh_si (sh_si (sh_si (sh_si (sh_si (sh_si (sh_si (sh_si (sh_si (sh_si (sh_si (sh_si (sh_si (sh_si (sh_si (sh_si (sh_si (sh_si (F.1 131 (100, 400) rfl rfl)))))))))))))))))))) rfl (jinb_of (by decide)) (by decide) ?_
  refine x_aloadn (x := 125) rfl rfl ?_
  refine x_dup rfl rfl ?_
  refine y_getI (v := 9) 12 8 rfl f_12_201 rfl (congrArg Prod.fst (sh_si (sh_si (sh_si (sh_si (sh_si (sh_si (sh_si (sh_si (sh_si (sh_si (sh_si (sh_si (sh_si (sh_si (sh_si (sh_si (sh_si (sh_si (sh_si (sh_si (F.1 125 (12, 92) rfl rfl)))))))))))))))))))))) (iv_si rfl iv_eq) ?_
  refine x_iconst (v := 1) rfl ki_1 ?_
  refine y_iadd (v := 10) rfl (by decide) ?_
  refine x_putI 12 8 rfl f_12_201 rfl (jfin_no TX12 RX12 92 rfl rfl) (congrArg Prod.fst (sh_si (sh_si (sh_si (sh_si (sh_si (sh_si (sh_si (sh_si (sh_si (sh_si (sh_si (sh_si (sh_si (sh_si (sh_si (sh_si (sh_si (sh_si (sh_si (sh_si (F.1 125 (12, 92) rfl rfl)))))))))))))))))))))) rfl ?_
  refine x_iinc (x := 16) (v := 8) (ls' := [(2, .int 8), (0, .ref 125), (1, .int a3)]) rfl rfl (by decide) rfl rfl ?_
  refine x_goto (tgt := 3) rfl rfl ?_
  refine x_iloadn (x := 8) rfl rfl ?_
  refine x_iflt (tgt := 39) rfl rfl (br_f (by decide) ?_)
  refine x_aloadn (x := 125) rfl rfl ?_
  refine x_getR (b := 131) 12 7 rfl f_12_29 rfl (congrArg Prod.fst (sh_si (sh_si (sh_si (sh_si (sh_si (sh_si (sh_si (sh_si (sh_si (sh_si (sh_si (sh_si (sh_si (sh_si (sh_si (sh_si (sh_si (sh_si (sh_si (sh_si (sh_si (F.1 125 (12, 92) rfl rfl))))))))))))))))))))))) (rv_si (rv_si (rv_si (rv_si (rv_si (rv_si (rv_si (rv_si (rv_si (rv_si (rv_si (rv_si (rv_si (rv_si (rv_si (rv_si (rv_si (rv_si (rv_si (rv_si (rv_si (F.2.1 16007 131 rfl rfl)))))))))))))))))))))) ?_
  refine x_aloadn (x := 125) rfl rfl ?_
  refine y_getI (v := 10) 12 8 rfl f_12_201 rfl (congrArg Prod.fst (sh_si (sh_si (sh_si (sh_si (sh_si (sh_si (sh_si (sh_si (sh_si (sh_si (sh_si (sh_si (sh_si (sh_si (sh_si (sh_si (sh_si (sh_si (sh_si (sh_si (sh_si (F.1 125 (12, 92) rfl rfl))))))))))))))))))))))) iv_eq ?_
  refine x_iloadn (x := a3) rfl rfl ?_
  refine x_iloadn (x := 8) rfl rfl ?_
  refine x_ishr rfl ?_
  refine x_sipush (v := 255) rfl ks_255 ?_
  refine x_iand rfl ?_
  refine y_iast (N := 400) 10 rfl (sh_si (sh_si (sh_si (sh_si (sh_si (sh_si (sh_si (sh_si (sh_si (sh_si (sh_si (sh_si (sh_si (sh_si (sh_si (sh_si (sh_si (sh_si (sh_si (sh_si (sh_si (F.1 131 (100, 400) rfl rfl)))))))))))))))))))))) rfl (jinb_of (by decide)) (by decide) ?_
  refine x_aloadn (x := 125) rfl rfl ?_
  refine x_dup rfl rfl ?_
  refine y_getI (v := 10) 12 8 rfl f_12_201 rfl (congrArg Prod.fst (sh_si (sh_si (sh_si (sh_si (sh_si (sh_si (sh_si (sh_si (sh_si (sh_si (sh_si (sh_si (sh_si (sh_si (sh_si (sh_si (sh_si (sh_si (sh_si (sh_si (sh_si (sh_si (F.1 125 (12, 92) rfl rfl)))))))))))))))))))))))) (iv_si rfl iv_eq) ?_
  refine x_iconst (v := 1) rfl ki_1 ?_
  refine y_iadd (v := 11) rfl (by decide) ?_
  refine x_putI 12 8 rfl f_12_201 rfl (jfin_no TX12 RX12 92 rfl rfl) (congrArg Prod.fst (sh_si (sh_si (sh_si (sh_si (sh_si (sh_si (sh_si (sh_si (sh_si (sh_si (sh_si (sh_si (sh_si (sh_si (sh_si (sh_si (sh_si (sh_si (sh_si (sh_si (sh_si (sh_si (F.1 125 (12, 92) rfl rfl)))))))))))))))))))))))) rfl ?_
  refine x_iinc (x := 8) (v := 0) (ls' := [(2, .int 0), (0, .ref 125), (1, .int a3)]) rfl rfl (by decide) rfl rfl ?_
  refine x_goto (tgt := 3) rfl rfl ?_
  refine x_iloadn (x := 0) rfl rfl ?_
  refine x_iflt (tgt := 39) rfl rfl (br_f (by decide) ?_)
  refine x_aloadn (x := 125) rfl rfl ?_
  refine x_getR (b := 131) 12 7 rfl f_12_29 rfl (congrArg Prod.fst (sh_si (sh_si (sh_si (sh_si (sh_si (sh_si (sh_si (sh_si (sh_si (sh_si (sh_si (sh_si (sh_si (sh_si (sh_si (sh_si (sh_si (sh_si (sh_si (sh_si (sh_si (sh_si (sh_si (F.1 125 (12, 92) rfl rfl))))))))))))))))))))))))) (rv_si (rv_si (rv_si (rv_si (rv_si (rv_si (rv_si (rv_si (rv_si (rv_si (rv_si (rv_si (rv_si (rv_si (rv_si (rv_si (rv_si (rv_si (rv_si (rv_si (rv_si (rv_si (rv_si (F.2.1 16007 131 rfl rfl)))))))))))))))))))))))) ?_
  refine x_aloadn (x := 125) rfl rfl ?_
  refine y_getI (v := 11) 12 8 rfl f_12_201 rfl (congrArg Prod.fst (sh_si (sh_si (sh_si (sh_si (sh_si (sh_si (sh_si (sh_si (sh_si (sh_si (sh_si (sh_si (sh_si (sh_si (sh_si (sh_si (sh_si (sh_si (sh_si (sh_si (sh_si (sh_si (sh_si (F.1 125 (12, 92) rfl rfl))))))))))))))))))))))))) iv_eq ?_
  refine x_iloadn (x := a3) rfl rfl ?_
  refine x_iloadn (x := 0) rfl rfl ?_
  refine x_ishr rfl ?_
  refine x_sipush (v := 255) rfl ks_255 ?_
  refine x_iand rfl ?_
  refine y_iast (N := 400) 11 rfl (sh_si (sh_si (sh_si (sh_si (sh_si (sh_si (sh_si (sh_si (sh_si (sh_si (sh_si (sh_si (sh_si (sh_si (sh_si (sh_si (sh_si (sh_si (sh_si (sh_si (sh_si (sh_si (sh_si (F.1 131 (100, 400) rfl rfl)))))))))))))))))))))))) rfl (jinb_of (by decide)) (by decide) ?_
  refine x_aloadn (x := 125) rfl rfl ?_
  refine x_dup rfl rfl ?_
  refine y_getI (v := 11) 12 8 rfl f_12_201 rfl (congrArg Prod.fst (sh_si (sh_si (sh_si (sh_si (sh_si (sh_si (sh_si (sh_si (sh_si (sh_si (sh_si (sh_si (sh_si (sh_si (sh_si (sh_si (sh_si (sh_si (sh_si (sh_si (sh_si (sh_si (sh_si (sh_si (F.1 125 (12, 92) rfl rfl)))))))))))))))))))))))))) (iv_si rfl iv_eq) ?_
  refine x_iconst (v := 1) rfl ki_1 ?_
  refine y_iadd (v := 12) rfl (by decide) ?_
  refine x_putI 12 8 rfl f_12_201 rfl (jfin_no TX12 RX12 92 rfl rfl) (congrArg Prod.fst (sh_si (sh_si (sh_si (sh_si (sh_si (sh_si (sh_si (sh_si (sh_si (sh_si (sh_si (sh_si (sh_si (sh_si (sh_si (sh_si (sh_si (sh_si (sh_si (sh_si (sh_si (sh_si (sh_si (sh_si (F.1 125 (12, 92) rfl rfl)))))))))))))))))))))))))) rfl ?_
  refine x_iinc (x := 0) (v := (-8)) (ls' := [(2, .int (-8)), (0, .ref 125), (1, .int a3)]) rfl rfl (by decide) rfl rfl ?_
  refine x_goto (tgt := 3) rfl rfl ?_
  refine x_iloadn (x := (-8)) rfl rfl ?_
  refine x_iflt (tgt := 39) rfl rfl (br_t (by decide) ?_)
  refine x_vret rfl rfl ?_
  show jX m_X12_feed 100 0 0 35 [(0, .ref 125), (1, .int a1), (2, .int a2), (3, .int a3), (4, .int a4), (5, .int a5)] [] _ 0 0 _
  refine x_aloadn (x := 125) rfl rfl ?_
  refine x_iload (x := a4) rfl rfl ?_
  refine x_inv (N := m_X12_four) (As := [.int a4]) (b := 125) (st := []) (d' := 99) (mc := 0) (ms := 0) (host := "") 12 rfl t_X12_four ⟨Or.inl q_12_207, i_X12_four.1, i_X12_four.2⟩ ⟨by decide, rfl⟩ (congrArg Prod.fst (sh_si (sh_si (sh_si (sh_si (sh_si (sh_si (sh_si (sh_si (sh_si (sh_si (sh_si (sh_si (sh_si (sh_si (sh_si (sh_si (sh_si (sh_si (sh_si (sh_si (sh_si (sh_si (sh_si (sh_si (sh_si (F.1 125 (12, 92) rfl rfl))))))))))))))))))))))))))) rfl (by decide) rfl rfl ⟨by decide, by decide⟩ (jC.of rfl k_X12_four rfl ?_)
  show jX m_X12_four 99 0 0 0 [(0, .ref 125), (1, .int a4)] [] _ 0 0 _
  refine x_bipush (v := 24) rfl kb_24 ?_
  refine x_istoren (ls' := [(2, .int 24), (0, .ref 125), (1, .int a4)]) rfl rfl rfl ?_
  refine x_iloadn (x := 24) rfl rfl ?_
  refine x_iflt (tgt := 39) rfl rfl (br_f (by decide) ?_)
  refine x_aloadn (x := 125) rfl rfl ?_
  refine x_getR (b := 131) 12 7 rfl f_12_29 rfl (congrArg Prod.fst (sh_si (sh_si (sh_si (sh_si (sh_si (sh_si (sh_si (sh_si (sh_si (sh_si (sh_si (sh_si (sh_si (sh_si (sh_si (sh_si (sh_si (sh_si (sh_si (sh_si (sh_si (sh_si (sh_si (sh_si (sh_si (F.1 125 (12, 92) rfl rfl))))))))))))))))))))))))))) (rv_si (rv_si (rv_si (rv_si (rv_si (rv_si (rv_si (rv_si (rv_si (rv_si (rv_si (rv_si (rv_si (rv_si (rv_si (rv_si (rv_si (rv_si (rv_si (rv_si (rv_si (rv_si (rv_si (rv_si (rv_si (F.2.1 16007 131 rfl rfl)))))))))))))))))))))))))) ?_
  refine x_aloadn (x := 125) rfl rfl ?_
  refine y_getI (v := 12) 12 8 rfl f_12_201 rfl (congrArg Prod.fst (sh_si (sh_si (sh_si (sh_si (sh_si (sh_si (sh_si (sh_si (sh_si (sh_si (sh_si (sh_si (sh_si (sh_si (sh_si (sh_si (sh_si (sh_si (sh_si (sh_si (sh_si (sh_si (sh_si (sh_si (sh_si (F.1 125 (12, 92) rfl rfl))))))))))))))))))))))))))) iv_eq ?_
  refine x_iloadn (x := a4) rfl rfl ?_
  refine x_iloadn (x := 24) rfl rfl ?_
  refine x_ishr rfl ?_
  refine x_sipush (v := 255) rfl ks_255 ?_
  refine x_iand rfl ?_
  refine y_iast (N := 400) 12 rfl (sh_si (sh_si (sh_si (sh_si (sh_si (sh_si (sh_si (sh_si (sh_si (sh_si (sh_si (sh_si (sh_si (sh_si (sh_si (sh_si (sh_si (sh_si (sh_si (sh_si (sh_si (sh_si (sh_si (sh_si (sh_si (F.1 131 (100, 400) rfl rfl)))))))))))))))))))))))))) rfl (jinb_of (by decide)) (by decide) ?_
  refine x_aloadn (x := 125) rfl rfl ?_
  refine x_dup rfl rfl ?_
  refine y_getI (v := 12) 12 8 rfl f_12_201 rfl (congrArg Prod.fst (sh_si (sh_si (sh_si (sh_si (sh_si (sh_si (sh_si (sh_si (sh_si (sh_si (sh_si (sh_si (sh_si (sh_si (sh_si (sh_si (sh_si (sh_si (sh_si (sh_si (sh_si (sh_si (sh_si (sh_si (sh_si (sh_si (F.1 125 (12, 92) rfl rfl)))))))))))))))))))))))))))) (iv_si rfl iv_eq) ?_
  refine x_iconst (v := 1) rfl ki_1 ?_
  refine y_iadd (v := 13) rfl (by decide) ?_
  refine x_putI 12 8 rfl f_12_201 rfl (jfin_no TX12 RX12 92 rfl rfl) (congrArg Prod.fst (sh_si (sh_si (sh_si (sh_si (sh_si (sh_si (sh_si (sh_si (sh_si (sh_si (sh_si (sh_si (sh_si (sh_si (sh_si (sh_si (sh_si (sh_si (sh_si (sh_si (sh_si (sh_si (sh_si (sh_si (sh_si (sh_si (F.1 125 (12, 92) rfl rfl)))))))))))))))))))))))))))) rfl ?_
  refine x_iinc (x := 24) (v := 16) (ls' := [(2, .int 16), (0, .ref 125), (1, .int a4)]) rfl rfl (by decide) rfl rfl ?_
  refine x_goto (tgt := 3) rfl rfl ?_
  refine x_iloadn (x := 16) rfl rfl ?_
  refine x_iflt (tgt := 39) rfl rfl (br_f (by decide) ?_)
  refine x_aloadn (x := 125) rfl rfl ?_
  refine x_getR (b := 131) 12 7 rfl f_12_29 rfl (congrArg Prod.fst (sh_si (sh_si (sh_si (sh_si (sh_si (sh_si (sh_si (sh_si (sh_si (sh_si (sh_si (sh_si (sh_si (sh_si (sh_si (sh_si (sh_si (sh_si (sh_si (sh_si (sh_si (sh_si (sh_si (sh_si (sh_si (sh_si (sh_si (F.1 125 (12, 92) rfl rfl))))))))))))))))))))))))))))) (rv_si (rv_si (rv_si (rv_si (rv_si (rv_si (rv_si (rv_si (rv_si (rv_si (rv_si (rv_si (rv_si (rv_si (rv_si (rv_si (rv_si (rv_si (rv_si (rv_si (rv_si (rv_si (rv_si (rv_si (rv_si (rv_si (rv_si (F.2.1 16007 131 rfl rfl)))))))))))))))))))))))))))) ?_
  refine x_aloadn (x := 125) rfl rfl ?_
  refine y_getI (v := 13) 12 8 rfl f_12_201 rfl (congrArg Prod.fst (sh_si (sh_si (sh_si (sh_si (sh_si (sh_si (sh_si (sh_si (sh_si (sh_si (sh_si (sh_si (sh_si (sh_si (sh_si (sh_si (sh_si (sh_si (sh_si (sh_si (sh_si (sh_si (sh_si (sh_si (sh_si (sh_si (sh_si (F.1 125 (12, 92) rfl rfl))))))))))))))))))))))))))))) iv_eq ?_
  refine x_iloadn (x := a4) rfl rfl ?_
  refine x_iloadn (x := 16) rfl rfl ?_
  refine x_ishr rfl ?_
  refine x_sipush (v := 255) rfl ks_255 ?_
  refine x_iand rfl ?_
  refine y_iast (N := 400) 13 rfl (sh_si (sh_si (sh_si (sh_si (sh_si (sh_si (sh_si (sh_si (sh_si (sh_si (sh_si (sh_si (sh_si (sh_si (sh_si (sh_si (sh_si (sh_si (sh_si (sh_si (sh_si (sh_si (sh_si (sh_si (sh_si (sh_si (sh_si (F.1 131 (100, 400) rfl rfl)))))))))))))))))))))))))))) rfl (jinb_of (by decide)) (by decide) ?_
  refine x_aloadn (x := 125) rfl rfl ?_
  refine x_dup rfl rfl ?_
  refine y_getI (v := 13) 12 8 rfl f_12_201 rfl (congrArg Prod.fst (sh_si (sh_si (sh_si (sh_si (sh_si (sh_si (sh_si (sh_si (sh_si (sh_si (sh_si (sh_si (sh_si (sh_si (sh_si (sh_si (sh_si (sh_si (sh_si (sh_si (sh_si (sh_si (sh_si (sh_si (sh_si (sh_si (sh_si (sh_si (F.1 125 (12, 92) rfl rfl)))))))))))))))))))))))))))))) (iv_si rfl iv_eq) ?_
  refine x_iconst (v := 1) rfl ki_1 ?_
  refine y_iadd (v := 14) rfl (by decide) ?_
  refine x_putI 12 8 rfl f_12_201 rfl (jfin_no TX12 RX12 92 rfl rfl) (congrArg Prod.fst (sh_si (sh_si (sh_si (sh_si (sh_si (sh_si (sh_si (sh_si (sh_si (sh_si (sh_si (sh_si (sh_si (sh_si (sh_si (sh_si (sh_si (sh_si (sh_si (sh_si (sh_si (sh_si (sh_si (sh_si (sh_si (sh_si (sh_si (sh_si (F.1 125 (12, 92) rfl rfl)))))))))))))))))))))))))))))) rfl ?_
  refine x_iinc (x := 16) (v := 8) (ls' := [(2, .int 8), (0, .ref 125), (1, .int a4)]) rfl rfl (by decide) rfl rfl ?_
  refine x_goto (tgt := 3) rfl rfl ?_
  refine x_iloadn (x := 8) rfl rfl ?_
  refine x_iflt (tgt := 39) rfl rfl (br_f (by decide) ?_)
  refine x_aloadn (x := 125) rfl rfl ?_
  refine x_getR (b := 131) 12 7 rfl f_12_29 rfl (congrArg Prod.fst (sh_si (sh_si (sh_si (sh_si (sh_si (sh_si (sh_si (sh_si (sh_si (sh_si (sh_si (sh_si (sh_si (sh_si (sh_si (sh_si (sh_si (sh_si (sh_si (sh_si (sh_si (sh_si (sh_si (sh_si (sh_si (sh_si (sh_si (sh_si (sh_si (F.1 125 (12, 92) rfl rfl))))))))))))))))))))))))))))))) (rv_si (rv_si (rv_si (rv_si (rv_si (rv_si (rv_si (rv_si (rv_si (rv_si (rv_si (rv_si (rv_si (rv_si (rv_si (rv_si (rv_si (rv_si (rv_si (rv_si (rv_si (rv_si (rv_si (rv_si (rv_si (rv_si (rv_si (rv_si (rv_si (F.2.1 16007 131 rfl rfl)))))))))))))))))))))))))))))) ?_
  refine x_aloadn (x := 125) rfl rfl ?_
  refine y_getI (v := 14) 12 8 rfl f_12_201 rfl (congrArg Prod.fst (sh_si (sh_si (sh_si (sh_si (sh_si (sh_si (sh_si (sh_si (sh_si (sh_si (sh_si (sh_si (sh_si (sh_si (sh_si (sh_si (sh_si (sh_si (sh_si (sh_si (sh_si (sh_si (sh_si (sh_si (sh_si (sh_si (sh_si (sh_si (sh_si (F.1 125 (12, 92) rfl rfl))))))))))))))))))))))))))))))) iv_eq ?_
  refine x_iloadn (x := a4) rfl rfl ?_
  refine x_iloadn (x := 8) rfl rfl ?_
  refine x_ishr rfl ?_
  refine x_sipush (v := 255) rfl ks_255 ?_
  refine x_iand rfl ?_
  refine y_iast (N := 400) 14 rfl (sh_si (sh_si (sh_si (sh_si (sh_si (sh_si (sh_si (sh_si (sh_si (sh_si (sh_si (sh_si (sh_si (sh_si (sh_si (sh_si (sh_si (sh_si (sh_si (sh_si (sh_si (sh_si (sh_si (sh_si (sh_si (sh_si (sh_si (sh_si (sh_si (F.1 131 (100, 400) rfl rfl)))))))))))))))))))))))))))))) rfl (jinb_of (by decide)) (by decide) ?_
  refine x_aloadn (x := 125) rfl rfl ?_
  refine x_dup rfl rfl ?_
  refine y_getI (v := 14) 12 8 rfl f_12_201 rfl (congrArg Prod.fst (sh_si (sh_si (sh_si (sh_si (sh_si (sh_si (sh_si (sh_si (sh_si (sh_si (sh_si (sh_si (sh_si (sh_si (sh_si (sh_si (sh_si (sh_si (sh_si (sh_si (sh_si (sh_si (sh_si (sh_si (sh_si (sh_si (sh_si (sh_si (sh_si (sh_si (F.1 125 (12, 92) rfl rfl)))))))))))))))))))))))))))))))) (iv_si rfl iv_eq) ?_
  refine x_iconst (v := 1) rfl ki_1 ?_
  refine y_iadd (v := 15) rfl (by decide) ?_
  refine x_putI 12 8 rfl f_12_201 rfl (jfin_no TX12 RX12 92 rfl rfl) (congrArg Prod.fst (sh_si (sh_si (sh_si (sh_si (sh_si (sh_si (sh_si (sh_si (sh_si (sh_si (sh_si (sh_si (sh_si (sh_si (sh_si (sh_si (sh_si (sh_si (sh_si (sh_si (sh_si (sh_si (sh_si (sh_si (sh_si (sh_si (sh_si (sh_si (sh_si (sh_si (F.1 125 (12, 92) rfl rfl)))))))))))))))))))))))))))))))) rfl ?_
  refine x_iinc (x := 8) (v := 0) (ls' := [(2, .int 0), (0, .ref 125), (1, .int a4)]) rfl rfl (by decide) rfl rfl ?_
  refine x_goto (tgt := 3) rfl rfl ?_
  refine x_iloadn (x := 0) rfl rfl ?_
  refine x_iflt (tgt := 39) rfl rfl (br_f (by decide) ?_)
  refine x_aloadn (x := 125) rfl rfl ?_
  refine x_getR (b := 131) 12 7 rfl f_12_29 rfl (congrArg Prod.fst (sh_si (sh_si (sh_si (sh_si (sh_si (sh_si (sh_si (sh_si (sh_si (sh_si (sh_si (sh_si (sh_si (sh_si (sh_si (sh_si (sh_si (sh_si (sh_si (sh_si (sh_si (sh_si (sh_si (sh_si (sh_si (sh_si (sh_si (sh_si (sh_si (sh_si (sh_si (F.1 125 (12, 92) rfl rfl))))))))))))))))))))))))))))))))) (rv_si (rv_si (rv_si (rv_si (rv_si (rv_si (rv_si (rv_si (rv_si (rv_si (rv_si (rv_si (rv_si (rv_si (rv_si (rv_si (rv_si (rv_si (rv_si (rv_si (rv_si (rv_si (rv_si (rv_si (rv_si (rv_si (rv_si (rv_si (rv_si (rv_si (rv_si (F.2.1 16007 131 rfl rfl)))))))))))))))))))))))))))))))) ?_
  refine x_aloadn (x := 125) rfl rfl ?_
  refine y_getI (v := 15) 12 8 rfl f_12_201 rfl (congrArg Prod.fst (sh_si (sh_si (sh_si (sh_si (sh_si (sh_si (sh_si (sh_si (sh_si (sh_si (sh_si (sh_si (sh_si (sh_si (sh_si (sh_si (sh_si (sh_si (sh_si (sh_si (sh_si (sh_si (sh_si (sh_si (sh_si (sh_si (sh_si (sh_si (sh_si (sh_si (sh_si (F.1 125 (12, 92) rfl rfl))))))))))))))))))))))))))))))))) iv_eq ?_
  refine x_iloadn (x := a4) rfl rfl ?_
  refine x_iloadn (x := 0) rfl rfl ?_
  refine x_ishr rfl ?_
  refine x_sipush (v := 255) rfl ks_255 ?_
  refine x_iand rfl ?_
  refine y_iast (N := 400) 15 rfl (sh_si (sh_si (sh_si (sh_si (sh_si (sh_si (sh_si (sh_si (sh_si (sh_si (sh_si (sh_si (sh_si (sh_si (sh_si (sh_si (sh_si (sh_si (sh_si (sh_si (sh_si (sh_si (sh_si (sh_si (sh_si (sh_si (sh_si (sh_si (sh_si (sh_si (sh_si (F.1 131 (100, 400) rfl rfl)))))))))))))))))))))))))))))))) rfl (jinb_of (by decide)) (by decide) ?_
  refine x_aloadn (x := 125) rfl rfl ?_
  refine x_dup rfl rfl ?_
  refine y_getI (v := 15) 12 8 rfl f_12_201 rfl (congrArg Prod.fst (sh_si (sh_si (sh_si (sh_si (sh_si (sh_si (sh_si (sh_si (sh_si (sh_si (sh_si (sh_si (sh_si (sh_si (sh_si (sh_si (sh_si (sh_si (sh_si (sh_si (sh_si (sh_si (sh_si (sh_si (sh_si (sh_si (sh_si (sh_si (sh_si (sh_si (sh_si (sh_si (F.1 125 (12, 92) rfl rfl)))))))))))))))))))))))))))))))))) (iv_si rfl iv_eq) ?_
  refine x_iconst (v := 1) rfl ki_1 ?_
  refine y_iadd (v := 16) rfl (by decide) ?_
  refine x_putI 12 8 rfl f_12_201 rfl (jfin_no TX12 RX12 92 rfl rfl) (congrArg Prod.fst (sh_si (sh_si (sh_si (sh_si (sh_si (sh_si (sh_si (sh_si (sh_si (sh_si (sh_si (sh_si (sh_si (sh_si (sh_si (sh_si (sh_si (sh_si (sh_si (sh_si (sh_si (sh_si (sh_si (sh_si (sh_si (sh_si (sh_si (sh_si (sh_si (sh_si (sh_si (sh_si (F.1 125 (12, 92) rfl rfl)))))))))))))))))))))))))))))))))) rfl ?_
  refine x_iinc (x := 0) (v := (-8)) (ls' := [(2, .int (-8)), (0, .ref 125), (1, .int a4)]) rfl rfl (by decide) rfl rfl ?_
  refine x_goto (tgt := 3) rfl rfl ?_
  refine x_iloadn (x := (-8)) rfl rfl ?_
  refine x_iflt (tgt := 39) rfl rfl (br_t (by decide) ?_)
  refine x_vret rfl rfl ?_
  show jX m_X12_feed 100 0 0 41 [(0, .ref 125), (1, .int a1), (2, .int a2), (3, .int a3), (4, .int a4), (5, .int a5)] [] _ 0 0 _
  refine x_aloadn (x := 125) rfl rfl ?_
  refine x_iload (x := a5) rfl rfl ?_
  refine x_inv (N := m_X12_four) (As := [.int a5]) (b := 125) (st := []) (d' := 99) (mc := 0) (ms := 0) (host := "") 12 rfl t_X12_four ⟨Or.inl q_12_207, i_X12_four.1, i_X12_four.2⟩ ⟨by decide, rfl⟩ (congrArg Prod.fst (sh_si (sh_si (sh_si (sh_si (sh_si (sh_si (sh_si (sh_si (sh_si (sh_si (sh_si (sh_si (sh_si (sh_si (sh_si (sh_si (sh_si (sh_si (sh_si (sh_si (sh_si (sh_si (sh_si (sh_si (sh_si (sh_si (sh_si (sh_si (sh_si (sh_si (sh_si (sh_si (sh_si (F.1 125 (12, 92) rfl rfl))))))))))))))))))))))))))))))))))) rfl (by decide) rfl rfl ⟨by decide, by decide⟩ (jC.of rfl k_X12_four rfl ?_)
  show jX m_X12_four 99 0 0 0 [(0, .ref 125), (1, .int a5)] [] _ 0 0 _
  refine x_bipush (v := 24) rfl kb_24 ?_
  refine x_istoren (ls' := [(2, .int 24), (0, .ref 125), (1, .int a5)]) rfl rfl rfl ?_
  refine x_iloadn (x := 24) rfl rfl ?_
  refine x_iflt (tgt := 39) rfl rfl (br_f (by decide) ?_)
  refine x_aloadn (x := 125) rfl rfl ?_
  refine x_getR (b := 131) 12 7 rfl f_12_29 rfl (congrArg Prod.fst (sh_si (sh_si (sh_si (sh_si (sh_si (sh_si (sh_si (sh_si (sh_si (sh_si (sh_si (sh_si (sh_si (sh_si (sh_si (sh_si (sh_si (sh_si (sh_si (sh_si (sh_si (sh_si (sh_si (sh_si (sh_si (sh_si (sh_si (sh_si (sh_si (sh_si (sh_si (sh_si (sh_si (F.1 125 (12, 92) rfl rfl))))))))))))))))))))))))))))))))))) (rv_si (rv_si (rv_si (rv_si (rv_si (rv_si (rv_si (rv_si (rv_si (rv_si (rv_si (rv_si (rv_si (rv_si (rv_si (rv_si (rv_si (rv_si (rv_si (rv_si (rv_si (rv_si (rv_si (rv_si (rv_si (rv_si (rv_si (rv_si (rv_si (rv_si (rv_si (rv_si (rv_si (F.2.1 16007 131 rfl rfl)))))))))))))))))))))))))))))))))) ?_
  refine x_aloadn (x := 125) rfl rfl ?_
  refine y_getI (v := 16) 12 8 rfl f_12_201 rfl (congrArg Prod.fst (sh_si (sh_si (sh_si (sh_si (sh_si (sh_si (sh_si (sh_si (sh_si (sh_si (sh_si (sh_si (sh_si (sh_si (sh_si (sh_si (sh_si (sh_si (sh_si (sh_si (sh_si (sh_si (sh_si (sh_si (sh_si (sh_si (sh_si (sh_si (sh_si (sh_si (sh_si (sh_si (sh_si (F.1 125 (12, 92) rfl rfl))))))))))))))))))))))))))))))))))) iv_eq ?_
  refine x_iloadn (x := a5) rfl rfl ?_
  refine x_iloadn (x := 24) rfl rfl ?_
  refine x_ishr rfl ?_
  refine x_sipush (v := 255) rfl ks_255 ?_
  refine x_iand rfl ?_
  refine y_iast (N := 400) 16 rfl (sh_si (sh_si (sh_si (sh_si (sh_si (sh_si (sh_si (sh_si (sh_si (sh_si (sh_si (sh_si (sh_si (sh_si (sh_si (sh_si (sh_si (sh_si (sh_si (sh_si (sh_si (sh_si (sh_si (sh_si (sh_si (sh_si (sh_si (sh_si (sh_si (sh_si (sh_si (sh_si (sh_si (F.1 131 (100, 400) rfl rfl)))))))))))))))))))))))))))))))))) rfl (jinb_of (by decide)) (by decide) ?_
  refine x_aloadn (x := 125) rfl rfl ?_
  refine x_dup rfl rfl ?_
  refine y_getI (v := 16) 12 8 rfl f_12_201 rfl (congrArg Prod.fst (sh_si (sh_si (sh_si (sh_si (sh_si (sh_si (sh_si (sh_si (sh_si (sh_si (sh_si (sh_si (sh_si (sh_si (sh_si (sh_si (sh_si (sh_si (sh_si (sh_si (sh_si (sh_si (sh_si (sh_si (sh_si (sh_si (sh_si (sh_si (sh_si (sh_si (sh_si (sh_si (sh_si (sh_si (F.1 125 (12, 92) rfl rfl)))))))))))))))))))))))))))))))))))) (iv_si rfl iv_eq) ?_
  refine x_iconst (v := 1) rfl ki_1 ?_
  refine y_iadd (v := 17) rfl (by decide) ?_
  refine x_putI 12 8 rfl f_12_201 rfl (jfin_no TX12 RX12 92 rfl rfl) (congrArg Prod.fst (sh_si (sh_si (sh_si (sh_si (sh_si (sh_si (sh_si (sh_si (sh_si (sh_si (sh_si (sh_si (sh_si (sh_si (sh_si (sh_si (sh_si (sh_si (sh_si (sh_si (sh_si (sh_si (sh_si (sh_si (sh_si (sh_si (sh_si (sh_si (sh_si (sh_si (sh_si (sh_si (sh_si (sh_si (F.1 125 (12, 92) rfl rfl)))))))))))))))))))))))))))))))))))) rfl ?_
  refine x_iinc (x := 24) (v := 16) (ls' := [(2, .int 16), (0, .ref 125), (1, .int a5)]) rfl rfl (by decide) rfl rfl ?_
  refine x_goto (tgt := 3) rfl rfl ?_
  refine x_iloadn (x := 16) rfl rfl ?_
  refine x_iflt (tgt := 39) rfl rfl (br_f (by decide) ?_)
  refine x_aloadn (x := 125) rfl rfl ?_
  refine x_getR (b := 131) 12 7 rfl f_12_29 rfl (congrArg Prod.fst (sh_si (sh_si (sh_si (sh_si (sh_si (sh_si (sh_si (sh_si (sh_si (sh_si (sh_si (sh_si (sh_si (sh_si (sh_si (sh_si (sh_si (sh_si (sh_si (sh_si (sh_si (sh_si (sh_si (sh_si (sh_si (sh_si (sh_si (sh_si (sh_si (sh_si (sh_si (sh_si (sh_si (sh_si (sh_si (F.1 125 (12, 92) rfl rfl))))))))))))))))))))))))))))))))))))) (rv_si (rv_si (rv_si (rv_si (rv_si (rv_si (rv_si (rv_si (rv_si (rv_si (rv_si (rv_si (rv_si (rv_si (rv_si (rv_si (rv_si (rv_si (rv_si (rv_si (rv_si (rv_si (rv_si (rv_si (rv_si (rv_si (rv_si (rv_si (rv_si (rv_si (rv_si (rv_si (rv_si (rv_si (rv_si (F.2.1 16007 131 rfl rfl)))))))))))))))))))))))))))))))))))) ?_
  refine x_aloadn (x := 125) rfl rfl ?_
  refine y_getI (v := 17) 12 8 rfl f_12_201 rfl (congrArg Prod.fst (sh_si (sh_si (sh_si (sh_si (sh_si (sh_si (sh_si (sh_si (sh_si (sh_si (sh_si (sh_si (sh_si (sh_si (sh_si (sh_si (sh_si (sh_si (sh_si (sh_si (sh_si (sh_si (sh_si (sh_si (sh_si (sh_si (sh_si (sh_si (sh_si (sh_si (sh_si (sh_si (sh_si (sh_si (sh_si (F.1 125 (12, 92) rfl rfl))))))))))))))))))))))))))))))))))))) iv_eq ?_
  refine x_iloadn (x := a5) rfl rfl ?_
  refine x_iloadn (x := 16) rfl rfl ?_
  refine x_ishr rfl ?_
  refine x_sipush (v := 255) rfl ks_255 ?_
  refine x_iand rfl ?_
  refine y_iast (N := 400) 17 rfl (sh_si (sh_si (sh_si (sh_si (sh_si (sh_si (sh_si (sh_si (sh_si (sh_si (sh_si (sh_si (sh_si (sh_si (sh_si (sh_si (sh_si (sh_si (sh_si (sh_si (sh_si (sh_si (sh_si (sh_si (sh_si (sh_si (sh_si (sh_si (sh_si (sh_si (sh_si (sh_si (sh_si (sh_si (sh_si (F.1 131 (100, 400) rfl rfl)))))))))))))))))))))))))))))))))))) rfl (jinb_of (by decide)) (by decide) ?_
  refine x_aloadn (x := 125) rfl rfl ?_
  refine x_dup rfl rfl ?_
  refine y_getI (v := 17) 12 8 rfl f_12_201 rfl (congrArg Prod.fst (sh_si (sh_si (sh_si (sh_si (sh_si (sh_si (sh_si (sh_si (sh_si (sh_si (sh_si (sh_si (sh_si (sh_si (sh_si (sh_si (sh_si (sh_si (sh_si (sh_si (sh_si (sh_si (sh_si (sh_si (sh_si (sh_si (sh_si (sh_si (sh_si (sh_si (sh_si (sh_si (sh_si (sh_si (sh_si (sh_si (F.1 125 (12, 92) rfl rfl)))))))))))))))))))))))))))))))))))))) (iv_si rfl iv_eq) ?_
  refine x_iconst (v := 1) rfl ki_1 ?_
  refine y_iadd (v := 18) rfl (by decide) ?_
  refine x_putI 12 8 rfl f_12_201 rfl (jfin_no TX12 RX12 92 rfl rfl) (congrArg Prod.fst (sh_si (sh_si (sh_si (sh_si (sh_si (sh_si (sh_si (sh_si (sh_si (sh_si (sh_si (sh_si (sh_si (sh_si (sh_si (sh_si (sh_si (sh_si (sh_si (sh_si (sh_si (sh_si (sh_si (sh_si (sh_si (sh_si (sh_si (sh_si (sh_si (sh_si (sh_si (sh_si (sh_si (sh_si (sh_si (sh_si (F.1 125 (12, 92) rfl rfl)))))))))))))))))))))))))))))))))))))) rfl ?_
  refine x_iinc (x := 16) (v := 8) (ls' := [(2, .int 8), (0, .ref 125), (1, .int a5)]) rfl rfl (by decide) rfl rfl ?_
  refine x_goto (tgt := 3) rfl rfl ?_
  refine x_iloadn (x := 8) rfl rfl ?_
  refine x_iflt (tgt := 39) rfl rfl (br_f (by decide) ?_)
  refine x_aloadn (x := 125) rfl rfl ?_
  refine x_getR (b := 131) 12 7 rfl f_12_29 rfl (congrArg Prod.fst (sh_si (sh_si (sh_si (sh_si (sh_si (sh_si (sh_si (sh_si (sh_si (sh_si (sh_si (sh_si (sh_si (sh_si (sh_si (sh_si (sh_si (sh_si (sh_si (sh_si (sh_si (sh_si (sh_si (sh_si (sh_si (sh_si (sh_si (sh_si (sh_si (sh_si (sh_si (sh_si (sh_si (sh_si (sh_si (sh_si (sh_si (F.1 125 (12, 92) rfl rfl))))))))))))))))))))))))))))))))))))))) (rv_si (rv_si (rv_si (rv_si (rv_si (rv_si (rv_si (rv_si (rv_si (rv_si (rv_si (rv_si (rv_si (rv_si (rv_si (rv_si (rv_si (rv_si (rv_si (rv_si (rv_si (rv_si (rv_si (rv_si (rv_si (rv_si (rv_si (rv_si (rv_si (rv_si (rv_si (rv_si (rv_si (rv_si (rv_si (rv_si (rv_si (F.2.1 16007 131 rfl rfl)))))))))))))))))))))))))))))))))))))) ?_
  refine x_aloadn (x := 125) rfl rfl ?_
  refine y_getI (v := 18) 12 8 rfl f_12_201 rfl (congrArg Prod.fst (sh_si (sh_si (sh_si (sh_si (sh_si (sh_si (sh_si (sh_si (sh_si (sh_si (sh_si (sh_si (sh_si (sh_si (sh_si (sh_si (sh_si (sh_si (sh_si (sh_si (sh_si (sh_si (sh_si (sh_si (sh_si (sh_si (sh_si (sh_si (sh_si (sh_si (sh_si (sh_si (sh_si (sh_si (sh_si (sh_si (sh_si (F.1 125 (12, 92) rfl rfl))))))))))))))))))))))))))))))))))))))) iv_eq ?_
  refine x_iloadn (x := a5) rfl rfl ?_
  refine x_iloadn (x := 8) rfl rfl ?_
  refine x_ishr rfl ?_
  refine x_sipush (v := 255) rfl ks_255 ?_
  refine x_iand rfl ?_
  refine y_iast (N := 400) 18 rfl (sh_si (sh_si (sh_si (sh_si (sh_si (sh_si (sh_si (sh_si (sh_si (sh_si (sh_si (sh_si (sh_si (sh_si (sh_si (sh_si (sh_si (sh_si (sh_si (sh_si (sh_si (sh_si (sh_si (sh_si (sh_si (sh_si (sh_si (sh_si (sh_si (sh_si (sh_si (sh_si (sh_si (sh_si (sh_si (sh_si (sh_si (F.1 131 (100, 400) rfl rfl)))))))))))))))))))))))))))))))))))))) rfl (jinb_of (by decide)) (by decide) ?_
  refine x_aloadn (x := 125) rfl rfl ?_
  refine x_dup rfl rfl ?_
  refine y_getI (v := 18) 12 8 rfl f_12_201 rfl (congrArg Prod.fst (sh_si (sh_si (sh_si (sh_si (sh_si (sh_si (sh_si (sh_si (sh_si (sh_si (sh_si (sh_si (sh_si (sh_si (sh_si (sh_si (sh_si (sh_si (sh_si (sh_si (sh_si (sh_si (sh_si (sh_si (sh_si (sh_si (sh_si (sh_si (sh_si (sh_si (sh_si (sh_si (sh_si (sh_si (sh_si (sh_si (sh_si (sh_si (F.1 125 (12, 92) rfl rfl)))))))))))))))))))))))))))))))))))))))) (iv_si rfl iv_eq) ?_
  refine x_iconst (v := 1) rfl ki_1 ?_
  refine y_iadd (v := 19) rfl (by decide) ?_
  refine x_putI 12 8 rfl f_12_201 rfl (jfin_no TX12 RX12 92 rfl rfl) (congrArg Prod.fst (sh_si (sh_si (sh_si (sh_si (sh_si (sh_si (sh_si (sh_si (sh_si (sh_si (sh_si (sh_si (sh_si (sh_si (sh_si (sh_si (sh_si (sh_si (sh_si (sh_si (sh_si (sh_si (sh_si (sh_si (sh_si (sh_si (sh_si (sh_si (sh_si (sh_si (sh_si (sh_si (sh_si (sh_si (sh_si (sh_si (sh_si (sh_si (F.1 125 (12, 92) rfl rfl)))))))))))))))))))))))))))))))))))))))) rfl ?_
  refine x_iinc (x := 8) (v := 0) (ls' := [(2, .int 0), (0, .ref 125), (1, .int a5)]) rfl rfl (by decide) rfl rfl ?_
  refine x_goto (tgt := 3) rfl rfl ?_
  refine x_iloadn (x := 0) rfl rfl ?_
  refine x_iflt (tgt := 39) rfl rfl (br_f (by decide) ?_)
  refine x_aloadn (x := 125) rfl rfl ?_
  refine x_getR (b := 131) 12 7 rfl f_12_29 rfl (congrArg Prod.fst (sh_si (sh_si (sh_si (sh_si (sh_si (sh_si (sh_si (sh_si (sh_si (sh_si (sh_si (sh_si (sh_si (sh_si (sh_si (sh_si (sh_si (sh_si (sh_si (sh_si (sh_si (sh_si (sh_si (sh_si (sh_si (sh_si (sh_si (sh_si (sh_si (sh_si (sh_si (sh_si (sh_si (sh_si (sh_si (sh_si (sh_si (sh_si (sh_si (F.1 125 (12, 92) rfl rfl))))))))))))))))))))))))))))))))))))))))) (rv_si (rv_si (rv_si (rv_si (rv_si (rv_si (rv_si (rv_si (rv_si (rv_si (rv_si (rv_si (rv_si (rv_si (rv_si (rv_si (rv_si (rv_si (rv_si (rv_si (rv_si (rv_si (rv_si (rv_si (rv_si (rv_si (rv_si (rv_si (rv_si (rv_si (rv_si (rv_si (rv_si (rv_si (rv_si (rv_si (rv_si (rv_si (rv_si (F.2.1 16007 131 rfl rfl)))))))))))))))))))))))))))))))))))))))) ?_
  refine x_aloadn (x := 125) rfl rfl ?_
  refine y_getI (v := 19) 12 8 rfl f_12_201 rfl (congrArg Prod.fst (sh_si (sh_si (sh_si (sh_si (sh_si (sh_si (sh_si (sh_si (sh_si (sh_si (sh_si (sh_si (sh_si (sh_si (sh_si (sh_si (sh_si (sh_si (sh_si (sh_si (sh_si (sh_si (sh_si (sh_si (sh_si (sh_si (sh_si (sh_si (sh_si (sh_si (sh_si (sh_si (sh_si (sh_si (sh_si (sh_si (sh_si (sh_si (sh_si (F.1 125 (12, 92) rfl rfl))))))))))))))))))))))))))))))))))))))))) iv_eq ?_
  refine x_iloadn (x := a5) rfl rfl ?_
  refine x_iloadn (x := 0) rfl rfl ?_
  refine x_ishr rfl ?_
  refine x_sipush (v := 255) rfl ks_255 ?_
  refine x_iand rfl ?_
  refine y_iast (N := 400) 19 rfl (sh_si (sh_si (sh_si (sh_si (sh_si (sh_si (sh_si (sh_si (sh_si (sh_si (sh_si (sh_si (sh_si (sh_si (sh_si (sh_si (sh_si (sh_si (sh_si (sh_si (sh_si (sh_si (sh_si (sh_si (sh_si (sh_si (sh_si (sh_si (sh_si (sh_si (sh_si (sh_si (sh_si (sh_si (sh_si (sh_si (sh_si (sh_si (sh_si (F.1 131 (100, 400) rfl rfl)))))))))))))))))))))))))))))))))))))))) rfl (jinb_of (by decide)) (by decide) ?_
  refine x_aloadn (x := 125) rfl rfl ?_
  refine x_dup rfl rfl ?_
  refine y_getI (v := 19) 12 8 rfl f_12_201 rfl (congrArg Prod.fst (sh_si (sh_si (sh_si (sh_si (sh_si (sh_si (sh_si (sh_si (sh_si (sh_si (sh_si (sh_si (sh_si (sh_si (sh_si (sh_si (sh_si (sh_si (sh_si (sh_si (sh_si (sh_si (sh_si (sh_si (sh_si (sh_si (sh_si (sh_si (sh_si (sh_si (sh_si (sh_si (sh_si (sh_si (sh_si (sh_si (sh_si (sh_si (sh_si (sh_si (F.1 125 (12, 92) rfl rfl)))))))))))))))))))))))))))))))))))))))))) (iv_si rfl iv_eq) ?_
  refine x_iconst (v := 1) rfl ki_1 ?_
  refine y_iadd (v := 20) rfl (by decide) ?_
  refine x_putI 12 8 rfl f_12_201 rfl (jfin_no TX12 RX12 92 rfl rfl) (congrArg Prod.fst (sh_si (sh_si (sh_si (sh_si (sh_si (sh_si (sh_si (sh_si (sh_si (sh_si (sh_si (sh_si (sh_si (sh_si (sh_si (sh_si (sh_si (sh_si (sh_si (sh_si (sh_si (sh_si (sh_si (sh_si (sh_si (sh_si (sh_si (sh_si (sh_si (sh_si (sh_si (sh_si (sh_si (sh_si (sh_si (sh_si (sh_si (sh_si (sh_si (sh_si (F.1 125 (12, 92) rfl rfl)))))))))))))))))))))))))))))))))))))))))) rfl ?_
  refine x_iinc (x := 0) (v := (-8)) (ls' := [(2, .int (-8)), (0, .ref 125), (1, .int a5)]) rfl rfl (by decide) rfl rfl ?_
  refine x_goto (tgt := 3) rfl rfl ?_
  refine x_iloadn (x := (-8)) rfl rfl ?_
  refine x_iflt (tgt := 39) rfl rfl (br_t (by decide) ?_)
  refine x_vret rfl rfl ?_
  show jX m_X12_feed 100 0 0 47 [(0, .ref 125), (1, .int a1), (2, .int a2), (3, .int a3), (4, .int a4), (5, .int a5)] [] _ 0 0 _
  refine x_aloadn (x := 125) rfl rfl ?_
  refine y_getI (v := 20) 12 8 rfl f_12_201 rfl (congrArg Prod.fst (sh_si (sh_si (sh_si (sh_si (sh_si (sh_si (sh_si (sh_si (sh_si (sh_si (sh_si (sh_si (sh_si (sh_si (sh_si (sh_si (sh_si (sh_si (sh_si (sh_si (sh_si (sh_si (sh_si (sh_si (sh_si (sh_si (sh_si (sh_si (sh_si (sh_si (sh_si (sh_si (sh_si (sh_si (sh_si (sh_si (sh_si (sh_si (sh_si (sh_si (sh_si (F.1 125 (12, 92) rfl rfl))))))))))))))))))))))))))))))))))))))))))) iv_eq ?_
  refine x_iret rfl rfl ?_
  exact jqe (show sp_feed a1 a2 a3 a4 a5 = 20 by unfold sp_feed; (repeat' split) <;> first | rfl | (exfalso; omega)) (hQ _ (jOl_si rfl (jOl_si rfl (jOl_si rfl (jOl_si rfl (jOl_si rfl (jOl_si rfl (jOl_si rfl (jOl_si rfl (jOl_si rfl (jOl_si rfl (jOl_si rfl (jOl_si rfl (jOl_si rfl (jOl_si rfl (jOl_si rfl (jOl_si rfl (jOl_si rfl (jOl_si rfl (jOl_si rfl (jOl_si rfl (jOl_si rfl (jOl_si rfl (jOl_si rfl (jOl_si rfl (jOl_si rfl (jOl_si rfl (jOl_si rfl (jOl_si rfl (jOl_si rfl (jOl_si rfl (jOl_si rfl (jOl_si rfl (jOl_si rfl (jOl_si rfl (jOl_si rfl (jOl_si rfl (jOl_si rfl (jOl_si rfl (jOl_si rfl (jOl_si rfl (jOl_si rfl O))))))))))))))))))))))))))))))))))))))))))
def sp_end (a1 : Int32) : Int32 := if 0 ≤ a1.toInt ∧ a1.toInt ≤ 0 then a1 else (-1)
set_option maxRecDepth 100000 in
set_option maxHeartbeats 40000000 in
theorem px_end (a1 : Int32) {xs : Nat → Int32} {h : jH} {Q : Option Value → jH → Prop} (F : jFb 31 h) (O : jOl 7 xs h) (hQ : ∀ h', jFb 125 h' → jOl 7 xs h' → Q (some (.int (sp_end a1))) h') : jC m_X11_end 100 0 0 [.ref 31, .int a1] h Q := by
  have FM := jFb_up 125 rfl F
  refine jC.of rfl k_X11_end rfl ?_
  show jX m_X11_end 100 0 0 0 [(0, .ref 31), (1, .int a1)] [] _ 0 0 _
  refine x_iloadn (x := a1) rfl rfl ?_
  refine x_iflt (tgt := 15) rfl rfl (ti_lt (show (a1 : Int32).toInt = a1.toInt from rfl) (show (0 : Int32).toInt = 0 by decide) ⟨fun c1 => ?_, fun c1 => ?_⟩)
  ·
    refine x_iconst (v := (-1)) rfl ki_m1 ?_
    refine x_iret rfl rfl ?_
    exact jqe (show sp_end a1 = (-1) by unfold sp_end; (repeat' split) <;> first | rfl | (exfalso; omega)) (hQ _ FM O)
  ·
    refine x_iloadn (x := a1) rfl rfl ?_
    refine x_aloadn (x := 31) rfl rfl ?_
    refine x_getR (b := 68) 11 2 rfl f_11_23 rfl (congrArg Prod.fst (F.1 31 (11, 13) rfl rfl)) (F.2.1 3970 68 rfl rfl) ?_
    refine y_getI (v := 0) 9 1 rfl f_11_106 rfl (congrArg Prod.fst (F.1 68 (9, 6) rfl rfl)) (F.2.2.1 8705 0 rfl rfl) ?_
    refine x_icle (tgt := 17) rfl rfl (ti_le (show (a1 : Int32).toInt = a1.toInt from rfl) (show (0 : Int32).toInt = 0 by decide) ⟨fun c2 => ?_, fun c2 => ?_⟩)
    ·
      refine x_aloadn (x := 31) rfl rfl ?_
      refine x_getR (b := 68) 11 2 rfl f_11_23 rfl (congrArg Prod.fst (F.1 31 (11, 13) rfl rfl)) (F.2.1 3970 68 rfl rfl) ?_
      refine x_iloadn (x := a1) rfl rfl ?_
      refine x_putI 9 1 rfl f_11_106 rfl (jfin_no TX9 RX9 6 rfl rfl) (congrArg Prod.fst (F.1 68 (9, 6) rfl rfl)) rfl ?_
      refine x_iloadn (x := a1) rfl rfl ?_
      refine x_iret rfl rfl ?_
      exact jqe (show sp_end a1 = a1 by unfold sp_end; (repeat' split) <;> first | rfl | (exfalso; omega)) (hQ _ (jFb_si rfl FM) (jOl_si rfl O))
    ·
      refine x_iconst (v := (-1)) rfl ki_m1 ?_
      refine x_iret rfl rfl ?_
      exact jqe (show sp_end a1 = (-1) by unfold sp_end; (repeat' split) <;> first | rfl | (exfalso; omega)) (hQ _ FM O)
set_option maxRecDepth 100000 in
set_option maxHeartbeats 40000000 in
theorem pm_end (a1 : Int32) {xs : Nat → Int32} {h : jH} {Q : Option Value → jH → Prop} (F : jFb 125 h) (O : jOl 7 xs h) (hQ : ∀ h', jOl 7 xs h' → Q (some (.int (sp_end a1))) h') : jC m_X12_end 100 0 0 [.ref 125, .int a1] h Q := by
  refine jC.of rfl k_X12_end rfl ?_
  show jX m_X12_end 100 0 0 0 [(0, .ref 125), (1, .int a1)] [] _ 0 0 _
  refine x_aloadn (x := 125) rfl rfl ?_
  refine x_iconst (v := 0) rfl ki_0 ?_
  refine x_putI 12 0 rfl f_12_180 rfl (jfin_no TX12 RX12 92 rfl rfl) (congrArg Prod.fst (F.1 125 (12, 92) rfl rfl)) rfl ?_
  refine x_iloadn (x := a1) rfl rfl ?_
  refine x_iflt (tgt := 17) rfl rfl (ti_lt (show (a1 : Int32).toInt = a1.toInt from rfl) (show (0 : Int32).toInt = 0 by decide) ⟨fun c1 => ?_, fun c1 => ?_⟩)
  ·
    refine x_iconst (v := (-1)) rfl ki_m1 ?_
    refine x_iret rfl rfl ?_
    exact jqe (show sp_end a1 = (-1) by unfold sp_end; (repeat' split) <;> first | rfl | (exfalso; omega)) (hQ _ (jOl_si rfl O))
  ·
    refine x_iloadn (x := a1) rfl rfl ?_
    refine x_aloadn (x := 125) rfl rfl ?_
    refine y_getI (v := 0) 12 8 rfl f_12_201 rfl (congrArg Prod.fst (sh_si (F.1 125 (12, 92) rfl rfl))) (iv_si rfl (F.2.2.1 16008 0 rfl rfl)) ?_
    refine x_icle (tgt := 19) rfl rfl (ti_le (show (a1 : Int32).toInt = a1.toInt from rfl) (show (0 : Int32).toInt = 0 by decide) ⟨fun c2 => ?_, fun c2 => ?_⟩)
    ·
      refine x_aloadn (x := 125) rfl rfl ?_
      refine x_iloadn (x := a1) rfl rfl ?_
      refine x_putI 12 8 rfl f_12_201 rfl (jfin_no TX12 RX12 92 rfl rfl) (congrArg Prod.fst (sh_si (F.1 125 (12, 92) rfl rfl))) rfl ?_
      refine x_iloadn (x := a1) rfl rfl ?_
      refine x_iret rfl rfl ?_
      exact jqe (show sp_end a1 = a1 by unfold sp_end; (repeat' split) <;> first | rfl | (exfalso; omega)) (hQ _ (jOl_si rfl (jOl_si rfl O)))
    ·
      refine x_iconst (v := (-1)) rfl ki_m1 ?_
      refine x_iret rfl rfl ?_
      exact jqe (show sp_end a1 = (-1) by unfold sp_end; (repeat' split) <;> first | rfl | (exfalso; omega)) (hQ _ (jOl_si rfl O))
def sp_fault : Int32 := (-1)
set_option maxRecDepth 100000 in
set_option maxHeartbeats 40000000 in
theorem px_fault {xs : Nat → Int32} {h : jH} {Q : Option Value → jH → Prop} (F : jFb 31 h) (O : jOl 7 xs h) (hQ : ∀ h', jFb 125 h' → jOl 7 xs h' → Q (some (.int (sp_fault))) h') : jC m_X11_fault 100 0 0 [.ref 31] h Q := by
  have FM := jFb_up 125 rfl F
  refine jC.of rfl k_X11_fault rfl ?_
  show jX m_X11_fault 100 0 0 0 [(0, .ref 31)] [] _ 0 0 _
  refine x_aloadn (x := 31) rfl rfl ?_
  refine x_getR (b := 68) 11 2 rfl f_11_23 rfl (congrArg Prod.fst (F.1 31 (11, 13) rfl rfl)) (F.2.1 3970 68 rfl rfl) ?_
  refine y_getI (v := (-1)) 9 2 rfl f_11_109 rfl (congrArg Prod.fst (F.1 68 (9, 6) rfl rfl)) (F.2.2.1 8706 (-1) rfl rfl) ?_
  refine x_iret rfl rfl ?_
  exact jqe (show sp_fault = (-1) by unfold sp_fault; (repeat' split) <;> first | rfl | (exfalso; omega)) (hQ _ FM O)
set_option maxRecDepth 100000 in
set_option maxHeartbeats 40000000 in
theorem pm_fault {xs : Nat → Int32} {h : jH} {Q : Option Value → jH → Prop} (F : jFb 125 h) (O : jOl 7 xs h) (hQ : ∀ h', jOl 7 xs h' → Q (some (.int (sp_fault))) h') : jC m_X12_fault 100 0 0 [.ref 125] h Q := by
  refine jC.of rfl k_X12_fault rfl ?_
  show jX m_X12_fault 100 0 0 0 [(0, .ref 125)] [] _ 0 0 _
  refine x_aloadn (x := 125) rfl rfl ?_
  refine x_iconst (v := 0) rfl ki_0 ?_
  refine x_putI 12 0 rfl f_12_180 rfl (jfin_no TX12 RX12 92 rfl rfl) (congrArg Prod.fst (F.1 125 (12, 92) rfl rfl)) rfl ?_
  refine x_aloadn (x := 125) rfl rfl ?_
  refine y_getI (v := (-1)) 12 13 rfl f_12_32 rfl (congrArg Prod.fst (sh_si (F.1 125 (12, 92) rfl rfl))) (iv_si rfl (F.2.2.1 16013 (-1) rfl rfl)) ?_
  refine x_iret rfl rfl ?_
  exact jqe (show sp_fault = (-1) by unfold sp_fault; (repeat' split) <;> first | rfl | (exfalso; omega)) (hQ _ (jOl_si rfl O))
def sp_line (a1 a2 a3 a4 a5 : Int32) : Int32 := if (0 ≤ a1.toInt ∧ a1.toInt ≤ 5) ∧ (0 ≤ a2.toInt ∧ a2.toInt ≤ 15) ∧ (0 ≤ a3.toInt ∧ a3.toInt ≤ 146399) ∧ (0 ≤ a4.toInt ∧ a4.toInt ≤ 146399) ∧ ((a1.toInt = 2 ∧ -1 ≤ a5.toInt ∧ a5.toInt ≤ 120) ∨ ((a1.toInt = 3 ∨ a1.toInt = 4) ∧ 0 ≤ a5.toInt ∧ a5.toInt ≤ 100000) ∨ (a1.toInt = 5 ∧ 1 ≤ a5.toInt ∧ a5.toInt ≤ 11) ∨ (a1.toInt < 2 ∧ a5.toInt = -1)) then 0 else (-1)
def sp_of (a1 a2 : Int32) : Int32 := (-2)
set_option maxRecDepth 100000 in
set_option maxHeartbeats 40000000 in
theorem px_of (a1 a2 : Int32) {xs : Nat → Int32} {h : jH} {Q : Option Value → jH → Prop} (F : jFb 31 h) (O : jOl 7 xs h) (hQ : ∀ h', jFb 125 h' → jOl 7 xs h' → Q (some (.int (sp_of a1 a2))) h') : jC m_X11_of 100 0 0 [.ref 31, .int a1, .int a2] h Q := by
  have FM := jFb_up 125 rfl F
  refine jC.of rfl k_X11_of rfl ?_
  show jX m_X11_of 100 0 0 0 [(0, .ref 31), (1, .int a1), (2, .int a2)] [] _ 0 0 _
  refine x_aloadn (x := 31) rfl rfl ?_
  refine x_iloadn (x := a1) rfl rfl ?_
  refine x_inv (N := m_X11_isLine) (As := [.int a1]) (b := 31) (st := []) (d' := 99) (mc := 0) (ms := 0) (host := "") 11 rfl t_X11_isLine ⟨Or.inl q_11_168, i_X11_isLine.1, i_X11_isLine.2⟩ ⟨by decide, rfl⟩ (congrArg Prod.fst (F.1 31 (11, 13) rfl rfl)) rfl (by decide) rfl rfl ⟨by decide, by decide⟩ (jC.of rfl k_X11_isLine rfl ?_)
  show jX m_X11_isLine 99 0 0 0 [(0, .ref 31), (1, .int a1)] [] _ 0 0 _
  refine x_iloadn (x := a1) rfl rfl ?_
  refine x_iflt (tgt := 22) rfl rfl (ti_lt (show (a1 : Int32).toInt = a1.toInt from rfl) (show (0 : Int32).toInt = 0 by decide) ⟨fun c1 => ?_, fun c1 => ?_⟩)
  ·
    refine x_iconst (v := 0) rfl ki_0 ?_
    refine x_zret rfl rfl (by first | decide | exact jp_01 _) ?_
    show jX m_X11_of 100 0 0 5 [(0, .ref 31), (1, .int a1), (2, .int a2)] [.int 0] _ 0 0 _
    refine x_ifne (tgt := 11) rfl rfl (bn_f (by decide) ?_)
    refine x_bipush (v := (-2)) rfl kb_m2 ?_
    refine x_iret rfl rfl ?_
    exact jqe (show sp_of a1 a2 = (-2) by unfold sp_of; (repeat' split) <;> first | rfl | (exfalso; omega)) (hQ _ FM O)
  ·
    refine x_iloadn (x := a1) rfl rfl ?_
    refine x_aloadn (x := 31) rfl rfl ?_
    refine x_getR (b := 32) 11 0 rfl f_11_10 rfl (congrArg Prod.fst (F.1 31 (11, 13) rfl rfl)) (F.2.1 3968 32 rfl rfl) ?_
    refine x_getR (b := 33) 1 0 rfl f_11_126 rfl (congrArg Prod.fst (F.1 32 (1, 20) rfl rfl)) (F.2.1 4096 33 rfl rfl) ?_
    refine y_getI (v := 0) 8 3 rfl f_11_142 rfl (congrArg Prod.fst (F.1 33 (8, 4) rfl rfl)) (F.2.2.1 4227 0 rfl rfl) ?_
    refine x_icge (tgt := 22) rfl rfl (ti_ge (show (a1 : Int32).toInt = a1.toInt from rfl) (show (0 : Int32).toInt = 0 by decide) ⟨fun c2 => ?_, fun c2 => ?_⟩)
    ·
      refine x_iconst (v := 0) rfl ki_0 ?_
      refine x_zret rfl rfl (by first | decide | exact jp_01 _) ?_
      show jX m_X11_of 100 0 0 5 [(0, .ref 31), (1, .int a1), (2, .int a2)] [.int 0] _ 0 0 _
      refine x_ifne (tgt := 11) rfl rfl (bn_f (by decide) ?_)
      refine x_bipush (v := (-2)) rfl kb_m2 ?_
      refine x_iret rfl rfl ?_
      exact jqe (show sp_of a1 a2 = (-2) by unfold sp_of; (repeat' split) <;> first | rfl | (exfalso; omega)) (hQ _ FM O)
    ·
      exfalso
      omega
set_option maxRecDepth 100000 in
set_option maxHeartbeats 40000000 in
theorem pm_of (a1 a2 : Int32) {xs : Nat → Int32} {h : jH} {Q : Option Value → jH → Prop} (F : jFb 125 h) (O : jOl 7 xs h) (hQ : ∀ h', jOl 7 xs h' → Q (some (.int (sp_of a1 a2))) h') : jC m_X12_of 100 0 0 [.ref 125, .int a1, .int a2] h Q := by
  refine jC.of rfl k_X12_of rfl ?_
  show jX m_X12_of 100 0 0 0 [(0, .ref 125), (1, .int a1), (2, .int a2)] [] _ 0 0 _
  refine x_aloadn (x := 125) rfl rfl ?_
  refine x_iconst (v := 0) rfl ki_0 ?_
  refine x_putI 12 0 rfl f_12_180 rfl (jfin_no TX12 RX12 92 rfl rfl) (congrArg Prod.fst (F.1 125 (12, 92) rfl rfl)) rfl ?_
  refine x_aloadn (x := 125) rfl rfl ?_
  refine x_iloadn (x := a1) rfl rfl ?_
  refine x_inv (N := m_X12_isLine) (As := [.int a1]) (b := 125) (st := []) (d' := 99) (mc := 0) (ms := 0) (host := "") 12 rfl t_X12_isLine ⟨Or.inl q_12_293, i_X12_isLine.1, i_X12_isLine.2⟩ ⟨by decide, rfl⟩ (congrArg Prod.fst (sh_si (F.1 125 (12, 92) rfl rfl))) rfl (by decide) rfl rfl ⟨by decide, by decide⟩ (jC.of rfl k_X12_isLine rfl ?_)
  show jX m_X12_isLine 99 0 0 0 [(0, .ref 125), (1, .int a1)] [] _ 0 0 _
  refine x_iloadn (x := a1) rfl rfl ?_
  refine x_i2l rfl ?_
  refine x_lconst (v := 0) rfl kl_0 ?_
  refine x_aloadn (x := 125) rfl rfl ?_
  refine x_getR (b := 126) 12 2 rfl f_12_8 rfl (congrArg Prod.fst (sh_si (F.1 125 (12, 92) rfl rfl))) (rv_si (F.2.1 16002 126 rfl rfl)) ?_
  refine x_iconst (v := 0) rfl ki_0 ?_
  refine y_iald (v := 0) (N := 50660) 0 rfl (sh_si (F.1 126 (100, 50660) rfl rfl)) (jinb_of (by decide)) (by decide) (iv_si rfl (F.2.2.2.1 126 rfl rfl 0).1) ?_
  refine y_i2l (v := 0) rfl (by decide) ?_
  refine x_lconst (v := 1) rfl kl_1 ?_
  refine y_lsub (v := (-1)) rfl (by decide) ?_
  refine x_inst (N := m_X12_in) (As := [.long (a1.toInt64), .long 0, .long (-1)]) (st := []) (d' := 98) (mc := 0) (ms := 0) (host := "") rfl t_X12_in ⟨Or.inl q_12_188, s_X12_in⟩ rfl (by decide) rfl rfl ⟨by decide, by decide⟩ (c_X12_in (m := a1.toInt) (a := 0) (b := (-1)) (jt_l _) (by decide) (by decide) ?_)
  show jX m_X12_isLine 99 0 0 15 [(0, .ref 125), (1, .int a1)] [.int (jp (0 ≤ a1.toInt ∧ a1.toInt ≤ (-1)))] _ 0 0 _
  refine x_zret rfl rfl (by first | decide | exact jp_01 _) ?_
  show jX m_X12_of 100 0 0 10 [(0, .ref 125), (1, .int a1), (2, .int a2)] [.int (jp (0 ≤ a1.toInt ∧ a1.toInt ≤ (-1)))] _ 0 0 _
  refine x_ifeq (tgt := 25) rfl rfl (jpe ⟨fun c1 => ?_, fun c1 => ?_⟩)
  ·
    refine x_bipush (v := (-2)) rfl kb_m2 ?_
    refine x_iret rfl rfl ?_
    exact jqe (show sp_of a1 a2 = (-2) by unfold sp_of; (repeat' split) <;> first | rfl | (exfalso; omega)) (hQ _ (jOl_si rfl O))
  ·
    exfalso
    omega
def sp_spell (a1 : Int32) : Int32 := if (0 ≤ a1.toInt ∧ a1.toInt ≤ 15) then 0 else (-1)
def sp_name (a1 a2 a3 : Int32) : Int32 := (-1)
set_option maxRecDepth 100000 in
set_option maxHeartbeats 40000000 in
theorem px_name (a1 a2 a3 : Int32) {xs : Nat → Int32} {h : jH} {Q : Option Value → jH → Prop} (F : jFb 31 h) (O : jOl 7 xs h) (hQ : ∀ h', jFb 125 h' → jOl 7 xs h' → Q (some (.int (sp_name a1 a2 a3))) h') : jC m_X11_name 100 0 0 [.ref 31, .int a1, .int a2, .int a3] h Q := by
  have FM := jFb_up 125 rfl F
  refine jC.of rfl k_X11_name rfl ?_
  show jX m_X11_name 100 0 0 0 [(0, .ref 31), (1, .int a1), (2, .int a2), (3, .int a3)] [] _ 0 0 _
  refine x_aloadn (x := 31) rfl rfl ?_
  refine x_getR (b := 78) 11 4 rfl f_11_41 rfl (congrArg Prod.fst (F.1 31 (11, 13) rfl rfl)) (F.2.1 3972 78 rfl rfl) ?_
  refine x_iloadn (x := a1) rfl rfl ?_
  refine x_inv (N := m_X7_isMention) (As := [.int a1]) (b := 78) (st := []) (d' := 99) (mc := 0) (ms := 0) (host := "") 7 rfl t_X7_isMention ⟨Or.inl q_11_187, i_X7_isMention.1, i_X7_isMention.2⟩ ⟨by decide, rfl⟩ (congrArg Prod.fst (F.1 78 (7, 16) rfl rfl)) rfl (by decide) rfl rfl ⟨by decide, by decide⟩ (jC.of rfl k_X7_isMention rfl ?_)
  show jX m_X7_isMention 99 0 0 0 [(0, .ref 78), (1, .int a1)] [] _ 0 0 _
  refine x_iloadn (x := a1) rfl rfl ?_
  refine x_iflt (tgt := 41) rfl rfl (ti_lt (show (a1 : Int32).toInt = a1.toInt from rfl) (show (0 : Int32).toInt = 0 by decide) ⟨fun c1 => ?_, fun c1 => ?_⟩)
  ·
    refine x_iconst (v := 0) rfl ki_0 ?_
    refine x_zret rfl rfl (by first | decide | exact jp_01 _) ?_
    show jX m_X11_name 100 0 0 8 [(0, .ref 31), (1, .int a1), (2, .int a2), (3, .int a3)] [.int 0] _ 0 0 _
    refine x_ifeq (tgt := 25) rfl rfl (br_t (by decide) ?_)
    refine x_iconst (v := (-1)) rfl ki_m1 ?_
    refine x_iret rfl rfl ?_
    exact jqe (show sp_name a1 a2 a3 = (-1) by unfold sp_name; (repeat' split) <;> first | rfl | (exfalso; omega)) (hQ _ FM O)
  ·
    refine x_iloadn (x := a1) rfl rfl ?_
    refine x_sipush (v := 600) rfl ks_600 ?_
    refine x_icge (tgt := 41) rfl rfl (ti_ge (show (a1 : Int32).toInt = a1.toInt from rfl) (show (600 : Int32).toInt = 600 by decide) ⟨fun c2 => ?_, fun c2 => ?_⟩)
    ·
      refine x_iconst (v := 0) rfl ki_0 ?_
      refine x_zret rfl rfl (by first | decide | exact jp_01 _) ?_
      show jX m_X11_name 100 0 0 8 [(0, .ref 31), (1, .int a1), (2, .int a2), (3, .int a3)] [.int 0] _ 0 0 _
      refine x_ifeq (tgt := 25) rfl rfl (br_t (by decide) ?_)
      refine x_iconst (v := (-1)) rfl ki_m1 ?_
      refine x_iret rfl rfl ?_
      exact jqe (show sp_name a1 a2 a3 = (-1) by unfold sp_name; (repeat' split) <;> first | rfl | (exfalso; omega)) (hQ _ FM O)
    ·
      refine x_iloadn (x := a1) rfl rfl ?_
      refine x_iconst (v := 3) rfl ki_3 ?_
      refine x_idiv rfl (by decide) ?_
      have c3 := jdivn (x := a1) (y := 3) (n := 3) (by decide) (by decide) (by omega)
      refine x_aloadn (x := 78) rfl rfl ?_
      refine x_getR (b := 32) 7 0 rfl f_7_55 rfl (congrArg Prod.fst (F.1 78 (7, 16) rfl rfl)) (F.2.1 9984 32 rfl rfl) ?_
      refine x_getR (b := 33) 1 0 rfl f_7_63 rfl (congrArg Prod.fst (F.1 32 (1, 20) rfl rfl)) (F.2.1 4096 33 rfl rfl) ?_
      refine y_getI (v := 0) 8 3 rfl f_7_85 rfl (congrArg Prod.fst (F.1 33 (8, 4) rfl rfl)) (F.2.2.1 4227 0 rfl rfl) ?_
      refine x_icge (tgt := 41) rfl rfl (ti_ge (show (a1 / 3 : Int32).toInt = (a1 / 3).toInt from rfl) (show (0 : Int32).toInt = 0 by decide) ⟨fun c4 => ?_, fun c4 => ?_⟩)
      ·
        refine x_iconst (v := 0) rfl ki_0 ?_
        refine x_zret rfl rfl (by first | decide | exact jp_01 _) ?_
        show jX m_X11_name 100 0 0 8 [(0, .ref 31), (1, .int a1), (2, .int a2), (3, .int a3)] [.int 0] _ 0 0 _
        refine x_ifeq (tgt := 25) rfl rfl (br_t (by decide) ?_)
        refine x_iconst (v := (-1)) rfl ki_m1 ?_
        refine x_iret rfl rfl ?_
        exact jqe (show sp_name a1 a2 a3 = (-1) by unfold sp_name; (repeat' split) <;> first | rfl | (exfalso; omega)) (hQ _ FM O)
      ·
        exfalso
        omega
set_option maxRecDepth 100000 in
set_option maxHeartbeats 40000000 in
theorem pm_name (a1 a2 a3 : Int32) {xs : Nat → Int32} {h : jH} {Q : Option Value → jH → Prop} (F : jFb 125 h) (O : jOl 7 xs h) (hQ : ∀ h', jOl 7 xs h' → Q (some (.int (sp_name a1 a2 a3))) h') : jC m_X12_name 100 0 0 [.ref 125, .int a1, .int a2, .int a3] h Q := by
  refine jC.of rfl k_X12_name rfl ?_
  show jX m_X12_name 100 0 0 0 [(0, .ref 125), (1, .int a1), (2, .int a2), (3, .int a3)] [] _ 0 0 _
  refine x_aloadn (x := 125) rfl rfl ?_
  refine x_iconst (v := 0) rfl ki_0 ?_
  refine x_putI 12 0 rfl f_12_180 rfl (jfin_no TX12 RX12 92 rfl rfl) (congrArg Prod.fst (F.1 125 (12, 92) rfl rfl)) rfl ?_
  refine x_aloadn (x := 125) rfl rfl ?_
  refine x_iloadn (x := a1) rfl rfl ?_
  refine x_inv (N := m_X12_isMention) (As := [.int a1]) (b := 125) (st := []) (d' := 99) (mc := 0) (ms := 0) (host := "") 12 rfl t_X12_isMention ⟨Or.inl q_12_322, i_X12_isMention.1, i_X12_isMention.2⟩ ⟨by decide, rfl⟩ (congrArg Prod.fst (sh_si (F.1 125 (12, 92) rfl rfl))) rfl (by decide) rfl rfl ⟨by decide, by decide⟩ (jC.of rfl k_X12_isMention rfl ?_)
  show jX m_X12_isMention 99 0 0 0 [(0, .ref 125), (1, .int a1)] [] _ 0 0 _
  refine x_iloadn (x := a1) rfl rfl ?_
  refine x_iflt (tgt := 34) rfl rfl (ti_lt (show (a1 : Int32).toInt = a1.toInt from rfl) (show (0 : Int32).toInt = 0 by decide) ⟨fun c1 => ?_, fun c1 => ?_⟩)
  ·
    refine x_iconst (v := 0) rfl ki_0 ?_
    refine x_zret rfl rfl (by first | decide | exact jp_01 _) ?_
    show jX m_X12_name 100 0 0 10 [(0, .ref 125), (1, .int a1), (2, .int a2), (3, .int a3)] [.int 0] _ 0 0 _
    refine x_ifeq (tgt := 23) rfl rfl (br_t (by decide) ?_)
    refine x_iconst (v := (-1)) rfl ki_m1 ?_
    refine x_iret rfl rfl ?_
    exact jqe (show sp_name a1 a2 a3 = (-1) by unfold sp_name; (repeat' split) <;> first | rfl | (exfalso; omega)) (hQ _ (jOl_si rfl O))
  ·
    refine x_aloadn (x := 125) rfl rfl ?_
    refine x_iloadn (x := a1) rfl rfl ?_
    refine x_iconst (v := 3) rfl ki_3 ?_
    refine x_idiv rfl (by decide) ?_
    have c2 := jdivn (x := a1) (y := 3) (n := 3) (by decide) (by decide) (by omega)
    refine x_inv (N := m_X12_isLine) (As := [.int (a1 / 3)]) (b := 125) (st := []) (d' := 98) (mc := 0) (ms := 0) (host := "") 12 rfl t_X12_isLine ⟨Or.inl q_12_293, i_X12_isLine.1, i_X12_isLine.2⟩ ⟨by decide, rfl⟩ (congrArg Prod.fst (sh_si (F.1 125 (12, 92) rfl rfl))) rfl (by decide) rfl rfl ⟨by decide, by decide⟩ (jC.of rfl k_X12_isLine rfl ?_)
    show jX m_X12_isLine 98 0 0 0 [(0, .ref 125), (1, .int (a1 / 3))] [] _ 0 0 _
    refine x_iloadn (x := a1 / 3) rfl rfl ?_
    refine x_i2l rfl ?_
    refine x_lconst (v := 0) rfl kl_0 ?_
    refine x_aloadn (x := 125) rfl rfl ?_
    refine x_getR (b := 126) 12 2 rfl f_12_8 rfl (congrArg Prod.fst (sh_si (F.1 125 (12, 92) rfl rfl))) (rv_si (F.2.1 16002 126 rfl rfl)) ?_
    refine x_iconst (v := 0) rfl ki_0 ?_
    refine y_iald (v := 0) (N := 50660) 0 rfl (sh_si (F.1 126 (100, 50660) rfl rfl)) (jinb_of (by decide)) (by decide) (iv_si rfl (F.2.2.2.1 126 rfl rfl 0).1) ?_
    refine y_i2l (v := 0) rfl (by decide) ?_
    refine x_lconst (v := 1) rfl kl_1 ?_
    refine y_lsub (v := (-1)) rfl (by decide) ?_
    refine x_inst (N := m_X12_in) (As := [.long ((a1 / 3).toInt64), .long 0, .long (-1)]) (st := []) (d' := 97) (mc := 0) (ms := 0) (host := "") rfl t_X12_in ⟨Or.inl q_12_188, s_X12_in⟩ rfl (by decide) rfl rfl ⟨by decide, by decide⟩ (c_X12_in (m := (a1 / 3).toInt) (a := 0) (b := (-1)) (jt_l _) (by decide) (by decide) ?_)
    show jX m_X12_isLine 98 0 0 15 [(0, .ref 125), (1, .int (a1 / 3))] [.int (jp (0 ≤ (a1 / 3).toInt ∧ (a1 / 3).toInt ≤ (-1)))] _ 0 0 _
    refine x_zret rfl rfl (by first | decide | exact jp_01 _) ?_
    show jX m_X12_isMention 99 0 0 11 [(0, .ref 125), (1, .int a1)] [.int (jp (0 ≤ (a1 / 3).toInt ∧ (a1 / 3).toInt ≤ (-1)))] _ 0 0 _
    refine x_ifeq (tgt := 34) rfl rfl (jpe ⟨fun c3 => ?_, fun c3 => ?_⟩)
    ·
      refine x_iconst (v := 0) rfl ki_0 ?_
      refine x_zret rfl rfl (by first | decide | exact jp_01 _) ?_
      show jX m_X12_name 100 0 0 10 [(0, .ref 125), (1, .int a1), (2, .int a2), (3, .int a3)] [.int 0] _ 0 0 _
      refine x_ifeq (tgt := 23) rfl rfl (br_t (by decide) ?_)
      refine x_iconst (v := (-1)) rfl ki_m1 ?_
      refine x_iret rfl rfl ?_
      exact jqe (show sp_name a1 a2 a3 = (-1) by unfold sp_name; (repeat' split) <;> first | rfl | (exfalso; omega)) (hQ _ (jOl_si rfl O))
    ·
      exfalso
      omega
def sp_piece (a1 a2 a3 a4 : Int32) : Int32 := if (0 ≤ a4.toInt ∧ a4.toInt ≤ 6) then (-2) else (-1)
set_option maxRecDepth 100000 in
set_option maxHeartbeats 40000000 in
theorem px_piece (a1 a2 a3 a4 : Int32) {xs : Nat → Int32} {h : jH} {Q : Option Value → jH → Prop} (F : jFb 31 h) (O : jOl 7 xs h) (hQ : ∀ h', jFb 125 h' → jOl 7 xs h' → Q (some (.int (sp_piece a1 a2 a3 a4))) h') : jC m_X11_piece 100 0 0 [.ref 31, .int a1, .int a2, .int a3, .int a4] h Q := by
  have FM := jFb_up 125 rfl F
  refine jC.of rfl k_X11_piece rfl ?_
  show jX m_X11_piece 100 0 0 0 [(0, .ref 31), (1, .int a1), (2, .int a2), (3, .int a3), (4, .int a4)] [] _ 0 0 _
  refine x_iload (x := a4) rfl rfl ?_
  refine x_iflt (tgt := 12) rfl rfl (ti_lt (show (a4 : Int32).toInt = a4.toInt from rfl) (show (0 : Int32).toInt = 0 by decide) ⟨fun c1 => ?_, fun c1 => ?_⟩)
  ·
    refine x_iconst (v := (-1)) rfl ki_m1 ?_
    refine x_iret rfl rfl ?_
    exact jqe (show sp_piece a1 a2 a3 a4 = (-1) by unfold sp_piece; (repeat' split) <;> first | rfl | (exfalso; omega)) (hQ _ FM O)
  ·
    refine x_iload (x := a4) rfl rfl ?_
    refine x_bipush (v := 6) rfl kb_6 ?_
    refine x_icle (tgt := 14) rfl rfl (ti_le (show (a4 : Int32).toInt = a4.toInt from rfl) (show (6 : Int32).toInt = 6 by decide) ⟨fun c2 => ?_, fun c2 => ?_⟩)
    ·
      refine x_aloadn (x := 31) rfl rfl ?_
      refine x_getR (b := 78) 11 4 rfl f_11_41 rfl (congrArg Prod.fst (F.1 31 (11, 13) rfl rfl)) (F.2.1 3972 78 rfl rfl) ?_
      refine x_iloadn (x := a1) rfl rfl ?_
      refine x_inv (N := m_X7_isMention) (As := [.int a1]) (b := 78) (st := []) (d' := 99) (mc := 0) (ms := 0) (host := "") 7 rfl t_X7_isMention ⟨Or.inl q_11_187, i_X7_isMention.1, i_X7_isMention.2⟩ ⟨by decide, rfl⟩ (congrArg Prod.fst (F.1 78 (7, 16) rfl rfl)) rfl (by decide) rfl rfl ⟨by decide, by decide⟩ (jC.of rfl k_X7_isMention rfl ?_)
      show jX m_X7_isMention 99 0 0 0 [(0, .ref 78), (1, .int a1)] [] _ 0 0 _
      refine x_iloadn (x := a1) rfl rfl ?_
      refine x_iflt (tgt := 41) rfl rfl (ti_lt (show (a1 : Int32).toInt = a1.toInt from rfl) (show (0 : Int32).toInt = 0 by decide) ⟨fun c3 => ?_, fun c3 => ?_⟩)
      ·
        refine x_iconst (v := 0) rfl ki_0 ?_
        refine x_zret rfl rfl (by first | decide | exact jp_01 _) ?_
        show jX m_X11_piece 100 0 0 22 [(0, .ref 31), (1, .int a1), (2, .int a2), (3, .int a3), (4, .int a4)] [.int 0] _ 0 0 _
        refine x_ifeq (tgt := 34) rfl rfl (br_t (by decide) ?_)
        refine x_bipush (v := (-2)) rfl kb_m2 ?_
        refine x_iret rfl rfl ?_
        exact jqe (show sp_piece a1 a2 a3 a4 = (-2) by unfold sp_piece; (repeat' split) <;> first | rfl | (exfalso; omega)) (hQ _ FM O)
      ·
        refine x_iloadn (x := a1) rfl rfl ?_
        refine x_sipush (v := 600) rfl ks_600 ?_
        refine x_icge (tgt := 41) rfl rfl (ti_ge (show (a1 : Int32).toInt = a1.toInt from rfl) (show (600 : Int32).toInt = 600 by decide) ⟨fun c4 => ?_, fun c4 => ?_⟩)
        ·
          refine x_iconst (v := 0) rfl ki_0 ?_
          refine x_zret rfl rfl (by first | decide | exact jp_01 _) ?_
          show jX m_X11_piece 100 0 0 22 [(0, .ref 31), (1, .int a1), (2, .int a2), (3, .int a3), (4, .int a4)] [.int 0] _ 0 0 _
          refine x_ifeq (tgt := 34) rfl rfl (br_t (by decide) ?_)
          refine x_bipush (v := (-2)) rfl kb_m2 ?_
          refine x_iret rfl rfl ?_
          exact jqe (show sp_piece a1 a2 a3 a4 = (-2) by unfold sp_piece; (repeat' split) <;> first | rfl | (exfalso; omega)) (hQ _ FM O)
        ·
          refine x_iloadn (x := a1) rfl rfl ?_
          refine x_iconst (v := 3) rfl ki_3 ?_
          refine x_idiv rfl (by decide) ?_
          have c5 := jdivn (x := a1) (y := 3) (n := 3) (by decide) (by decide) (by omega)
          refine x_aloadn (x := 78) rfl rfl ?_
          refine x_getR (b := 32) 7 0 rfl f_7_55 rfl (congrArg Prod.fst (F.1 78 (7, 16) rfl rfl)) (F.2.1 9984 32 rfl rfl) ?_
          refine x_getR (b := 33) 1 0 rfl f_7_63 rfl (congrArg Prod.fst (F.1 32 (1, 20) rfl rfl)) (F.2.1 4096 33 rfl rfl) ?_
          refine y_getI (v := 0) 8 3 rfl f_7_85 rfl (congrArg Prod.fst (F.1 33 (8, 4) rfl rfl)) (F.2.2.1 4227 0 rfl rfl) ?_
          refine x_icge (tgt := 41) rfl rfl (ti_ge (show (a1 / 3 : Int32).toInt = (a1 / 3).toInt from rfl) (show (0 : Int32).toInt = 0 by decide) ⟨fun c6 => ?_, fun c6 => ?_⟩)
          ·
            refine x_iconst (v := 0) rfl ki_0 ?_
            refine x_zret rfl rfl (by first | decide | exact jp_01 _) ?_
            show jX m_X11_piece 100 0 0 22 [(0, .ref 31), (1, .int a1), (2, .int a2), (3, .int a3), (4, .int a4)] [.int 0] _ 0 0 _
            refine x_ifeq (tgt := 34) rfl rfl (br_t (by decide) ?_)
            refine x_bipush (v := (-2)) rfl kb_m2 ?_
            refine x_iret rfl rfl ?_
            exact jqe (show sp_piece a1 a2 a3 a4 = (-2) by unfold sp_piece; (repeat' split) <;> first | rfl | (exfalso; omega)) (hQ _ FM O)
          ·
            exfalso
            omega
    ·
      refine x_iconst (v := (-1)) rfl ki_m1 ?_
      refine x_iret rfl rfl ?_
      exact jqe (show sp_piece a1 a2 a3 a4 = (-1) by unfold sp_piece; (repeat' split) <;> first | rfl | (exfalso; omega)) (hQ _ FM O)
set_option maxRecDepth 100000 in
set_option maxHeartbeats 40000000 in
theorem pm_piece (a1 a2 a3 a4 : Int32) {xs : Nat → Int32} {h : jH} {Q : Option Value → jH → Prop} (F : jFb 125 h) (O : jOl 7 xs h) (hQ : ∀ h', jOl 7 xs h' → Q (some (.int (sp_piece a1 a2 a3 a4))) h') : jC m_X12_piece 100 0 0 [.ref 125, .int a1, .int a2, .int a3, .int a4] h Q := by
  refine jC.of rfl k_X12_piece rfl ?_
  show jX m_X12_piece 100 0 0 0 [(0, .ref 125), (1, .int a1), (2, .int a2), (3, .int a3), (4, .int a4)] [] _ 0 0 _
  refine x_aloadn (x := 125) rfl rfl ?_
  refine x_iconst (v := 0) rfl ki_0 ?_
  refine x_putI 12 0 rfl f_12_180 rfl (jfin_no TX12 RX12 92 rfl rfl) (congrArg Prod.fst (F.1 125 (12, 92) rfl rfl)) rfl ?_
  refine x_iload (x := a4) rfl rfl ?_
  refine x_i2l rfl ?_
  refine x_lconst (v := 0) rfl kl_0 ?_
  refine x_ldc2 (v := 6) rfl z_12_329 ?_
  refine x_inst (N := m_X12_in) (As := [.long (a4.toInt64), .long 0, .long 6]) (st := []) (d' := 99) (mc := 0) (ms := 0) (host := "") rfl t_X12_in ⟨Or.inl q_12_188, s_X12_in⟩ rfl (by decide) rfl rfl ⟨by decide, by decide⟩ (c_X12_in (m := a4.toInt) (a := 0) (b := 6) (jt_l _) (by decide) (by decide) ?_)
  show jX m_X12_piece 100 0 0 15 [(0, .ref 125), (1, .int a1), (2, .int a2), (3, .int a3), (4, .int a4)] [.int (jp (0 ≤ a4.toInt ∧ a4.toInt ≤ 6))] _ 0 0 _
  refine x_ifne (tgt := 20) rfl rfl (jpn ⟨fun c1 => ?_, fun c1 => ?_⟩)
  ·
    refine x_aloadn (x := 125) rfl rfl ?_
    refine x_iloadn (x := a1) rfl rfl ?_
    refine x_inv (N := m_X12_isMention) (As := [.int a1]) (b := 125) (st := []) (d' := 99) (mc := 0) (ms := 0) (host := "") 12 rfl t_X12_isMention ⟨Or.inl q_12_322, i_X12_isMention.1, i_X12_isMention.2⟩ ⟨by decide, rfl⟩ (congrArg Prod.fst (sh_si (F.1 125 (12, 92) rfl rfl))) rfl (by decide) rfl rfl ⟨by decide, by decide⟩ (jC.of rfl k_X12_isMention rfl ?_)
    show jX m_X12_isMention 99 0 0 0 [(0, .ref 125), (1, .int a1)] [] _ 0 0 _
    refine x_iloadn (x := a1) rfl rfl ?_
    refine x_iflt (tgt := 34) rfl rfl (ti_lt (show (a1 : Int32).toInt = a1.toInt from rfl) (show (0 : Int32).toInt = 0 by decide) ⟨fun c2 => ?_, fun c2 => ?_⟩)
    ·
      refine x_iconst (v := 0) rfl ki_0 ?_
      refine x_zret rfl rfl (by first | decide | exact jp_01 _) ?_
      show jX m_X12_piece 100 0 0 25 [(0, .ref 125), (1, .int a1), (2, .int a2), (3, .int a3), (4, .int a4)] [.int 0] _ 0 0 _
      refine x_ifeq (tgt := 47) rfl rfl (br_t (by decide) ?_)
      refine x_bipush (v := (-2)) rfl kb_m2 ?_
      refine x_iret rfl rfl ?_
      exact jqe (show sp_piece a1 a2 a3 a4 = (-2) by unfold sp_piece; (repeat' split) <;> first | rfl | (exfalso; omega)) (hQ _ (jOl_si rfl O))
    ·
      refine x_aloadn (x := 125) rfl rfl ?_
      refine x_iloadn (x := a1) rfl rfl ?_
      refine x_iconst (v := 3) rfl ki_3 ?_
      refine x_idiv rfl (by decide) ?_
      have c3 := jdivn (x := a1) (y := 3) (n := 3) (by decide) (by decide) (by omega)
      refine x_inv (N := m_X12_isLine) (As := [.int (a1 / 3)]) (b := 125) (st := []) (d' := 98) (mc := 0) (ms := 0) (host := "") 12 rfl t_X12_isLine ⟨Or.inl q_12_293, i_X12_isLine.1, i_X12_isLine.2⟩ ⟨by decide, rfl⟩ (congrArg Prod.fst (sh_si (F.1 125 (12, 92) rfl rfl))) rfl (by decide) rfl rfl ⟨by decide, by decide⟩ (jC.of rfl k_X12_isLine rfl ?_)
      show jX m_X12_isLine 98 0 0 0 [(0, .ref 125), (1, .int (a1 / 3))] [] _ 0 0 _
      refine x_iloadn (x := a1 / 3) rfl rfl ?_
      refine x_i2l rfl ?_
      refine x_lconst (v := 0) rfl kl_0 ?_
      refine x_aloadn (x := 125) rfl rfl ?_
      refine x_getR (b := 126) 12 2 rfl f_12_8 rfl (congrArg Prod.fst (sh_si (F.1 125 (12, 92) rfl rfl))) (rv_si (F.2.1 16002 126 rfl rfl)) ?_
      refine x_iconst (v := 0) rfl ki_0 ?_
      refine y_iald (v := 0) (N := 50660) 0 rfl (sh_si (F.1 126 (100, 50660) rfl rfl)) (jinb_of (by decide)) (by decide) (iv_si rfl (F.2.2.2.1 126 rfl rfl 0).1) ?_
      refine y_i2l (v := 0) rfl (by decide) ?_
      refine x_lconst (v := 1) rfl kl_1 ?_
      refine y_lsub (v := (-1)) rfl (by decide) ?_
      refine x_inst (N := m_X12_in) (As := [.long ((a1 / 3).toInt64), .long 0, .long (-1)]) (st := []) (d' := 97) (mc := 0) (ms := 0) (host := "") rfl t_X12_in ⟨Or.inl q_12_188, s_X12_in⟩ rfl (by decide) rfl rfl ⟨by decide, by decide⟩ (c_X12_in (m := (a1 / 3).toInt) (a := 0) (b := (-1)) (jt_l _) (by decide) (by decide) ?_)
      show jX m_X12_isLine 98 0 0 15 [(0, .ref 125), (1, .int (a1 / 3))] [.int (jp (0 ≤ (a1 / 3).toInt ∧ (a1 / 3).toInt ≤ (-1)))] _ 0 0 _
      refine x_zret rfl rfl (by first | decide | exact jp_01 _) ?_
      show jX m_X12_isMention 99 0 0 11 [(0, .ref 125), (1, .int a1)] [.int (jp (0 ≤ (a1 / 3).toInt ∧ (a1 / 3).toInt ≤ (-1)))] _ 0 0 _
      refine x_ifeq (tgt := 34) rfl rfl (jpe ⟨fun c4 => ?_, fun c4 => ?_⟩)
      ·
        refine x_iconst (v := 0) rfl ki_0 ?_
        refine x_zret rfl rfl (by first | decide | exact jp_01 _) ?_
        show jX m_X12_piece 100 0 0 25 [(0, .ref 125), (1, .int a1), (2, .int a2), (3, .int a3), (4, .int a4)] [.int 0] _ 0 0 _
        refine x_ifeq (tgt := 47) rfl rfl (br_t (by decide) ?_)
        refine x_bipush (v := (-2)) rfl kb_m2 ?_
        refine x_iret rfl rfl ?_
        exact jqe (show sp_piece a1 a2 a3 a4 = (-2) by unfold sp_piece; (repeat' split) <;> first | rfl | (exfalso; omega)) (hQ _ (jOl_si rfl O))
      ·
        exfalso
        omega
  ·
    refine x_iconst (v := (-1)) rfl ki_m1 ?_
    refine x_iret rfl rfl ?_
    exact jqe (show sp_piece a1 a2 a3 a4 = (-1) by unfold sp_piece; (repeat' split) <;> first | rfl | (exfalso; omega)) (hQ _ (jOl_si rfl O))
