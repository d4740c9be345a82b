/-! the law's cases -/
set_option maxRecDepth 100000 in
set_option maxHeartbeats 40000000 in
theorem cs_feed {xs : Nat → Int32} {h : jH} {Q : Option Value → jH → Prop} (F : jFb 31 h) (O : jOl 7 xs h) (hQ : ∀ h', Q (some (.int 1)) h') : jX m_L_law 1300 600000 7302249 296 [(3, .int 0), (2, .ref 125), (1, .ref 31), (0, .ref 0)] [] h 143 360892 Q := by
  refine x_aloadn (x := 31) rfl rfl ?_
  refine x_aloadn (x := 0) rfl rfl ?_
  refine x_iloadn (x := 0) rfl rfl ?_
  refine x_iconst (v := 1) rfl ki_1 ?_
  refine y_iadd (v := 1) rfl (by decide) ?_
  refine y_iald (v := xs 1) (N := 7) 1 rfl (O 0 (by decide)).1 (jinb_of (by decide)) (by decide) ((O 0 (by decide)).2 1) ?_
  refine x_aloadn (x := 0) rfl rfl ?_
  refine x_iloadn (x := 0) rfl rfl ?_
  refine x_iconst (v := 2) rfl ki_2 ?_
  refine y_iadd (v := 2) rfl (by decide) ?_
  refine y_iald (v := xs 2) (N := 7) 2 rfl (O 0 (by decide)).1 (jinb_of (by decide)) (by decide) ((O 0 (by decide)).2 2) ?_
  refine x_aloadn (x := 0) rfl rfl ?_
  refine x_iloadn (x := 0) rfl rfl ?_
  refine x_iconst (v := 3) rfl ki_3 ?_
  refine y_iadd (v := 3) rfl (by decide) ?_
  refine y_iald (v := xs 3) (N := 7) 3 rfl (O 0 (by decide)).1 (jinb_of (by decide)) (by decide) ((O 0 (by decide)).2 3) ?_
  refine x_aloadn (x := 0) rfl rfl ?_
  refine x_iloadn (x := 0) rfl rfl ?_
  refine x_iconst (v := 4) rfl ki_4 ?_
  refine y_iadd (v := 4) rfl (by decide) ?_
  refine y_iald (v := xs 4) (N := 7) 4 rfl (O 0 (by decide)).1 (jinb_of (by decide)) (by decide) ((O 0 (by decide)).2 4) ?_
  refine x_aloadn (x := 0) rfl rfl ?_
  refine x_iloadn (x := 0) rfl rfl ?_
  refine x_iconst (v := 5) rfl ki_5 ?_
  refine y_iadd (v := 5) rfl (by decide) ?_
  refine y_iald (v := xs 5) (N := 7) 5 rfl (O 0 (by decide)).1 (jinb_of (by decide)) (by decide) ((O 0 (by decide)).2 5) ?_
  refine x_inv (N := m_X11_feed) (As := [.int (xs 1), .int (xs 2), .int (xs 3), .int (xs 4), .int (xs 5)]) (b := 31) (st := []) (d' := 100) (mc := 0) (ms := 0) (host := "") 11 rfl t_X11_feed ⟨Or.inl q_13_13, i_X11_feed.1, i_X11_feed.2⟩ ⟨by decide, rfl⟩ (congrArg Prod.fst (F.1 31 (11, 13) rfl rfl)) rfl (by decide) rfl rfl ⟨by decide, by decide⟩ (px_feed (xs 1) (xs 2) (xs 3) (xs 4) (xs 5) F O ?_)
  intro h2 F2 O2
  show jX m_L_law 1300 600000 7302249 325 [(3, .int 0), (2, .ref 125), (1, .ref 31), (0, .ref 0)] [.int (sp_feed (xs 1) (xs 2) (xs 3) (xs 4) (xs 5))] _ 143 360892 _
  refine x_aloadn (x := 125) rfl rfl ?_
  refine x_aloadn (x := 0) rfl rfl ?_
  refine x_iloadn (x := 0) rfl rfl ?_
  refine x_iconst (v := 1) rfl ki_1 ?_
  refine y_iadd (v := 1) rfl (by decide) ?_
  refine y_iald (v := xs 1) (N := 7) 1 rfl (O2 0 (by decide)).1 (jinb_of (by decide)) (by decide) ((O2 0 (by decide)).2 1) ?_
  refine x_aloadn (x := 0) rfl rfl ?_
  refine x_iloadn (x := 0) rfl rfl ?_
  refine x_iconst (v := 2) rfl ki_2 ?_
  refine y_iadd (v := 2) rfl (by decide) ?_
  refine y_iald (v := xs 2) (N := 7) 2 rfl (O2 0 (by decide)).1 (jinb_of (by decide)) (by decide) ((O2 0 (by decide)).2 2) ?_
  refine x_aloadn (x := 0) rfl rfl ?_
  refine x_iloadn (x := 0) rfl rfl ?_
  refine x_iconst (v := 3) rfl ki_3 ?_
  refine y_iadd (v := 3) rfl (by decide) ?_
  refine y_iald (v := xs 3) (N := 7) 3 rfl (O2 0 (by decide)).1 (jinb_of (by decide)) (by decide) ((O2 0 (by decide)).2 3) ?_
  refine x_aloadn (x := 0) rfl rfl ?_
  refine x_iloadn (x := 0) rfl rfl ?_
  refine x_iconst (v := 4) rfl ki_4 ?_
  refine y_iadd (v := 4) rfl (by decide) ?_
  refine y_iald (v := xs 4) (N := 7) 4 rfl (O2 0 (by decide)).1 (jinb_of (by decide)) (by decide) ((O2 0 (by decide)).2 4) ?_
  refine x_aloadn (x := 0) rfl rfl ?_
  refine x_iloadn (x := 0) rfl rfl ?_
  refine x_iconst (v := 5) rfl ki_5 ?_
  refine y_iadd (v := 5) rfl (by decide) ?_
  refine y_iald (v := xs 5) (N := 7) 5 rfl (O2 0 (by decide)).1 (jinb_of (by decide)) (by decide) ((O2 0 (by decide)).2 5) ?_
  refine x_inv (N := m_X12_feed) (As := [.int (xs 1), .int (xs 2), .int (xs 3), .int (xs 4), .int (xs 5)]) (b := 125) (st := [.int (sp_feed (xs 1) (xs 2) (xs 3) (xs 4) (xs 5))]) (d' := 100) (mc := 0) (ms := 0) (host := "") 12 rfl t_X12_feed ⟨Or.inl q_13_17, i_X12_feed.1, i_X12_feed.2⟩ ⟨by decide, rfl⟩ (congrArg Prod.fst (F2.1 125 (12, 92) rfl rfl)) rfl (by decide) rfl rfl ⟨by decide, by decide⟩ (pm_feed (xs 1) (xs 2) (xs 3) (xs 4) (xs 5) F2 O2 ?_)
  intro h3 O3
  show jX m_L_law 1300 600000 7302249 354 [(3, .int 0), (2, .ref 125), (1, .ref 31), (0, .ref 0)] [.int (sp_feed (xs 1) (xs 2) (xs 3) (xs 4) (xs 5)), .int (sp_feed (xs 1) (xs 2) (xs 3) (xs 4) (xs 5))] _ 143 360892 _
  refine x_iceq (tgt := 2887) rfl rfl (br_t rfl ?_)
  refine x_iinc (x := 0) (v := 7) (ls' := [(3, .int 7), (2, .ref 125), (1, .ref 31), (0, .ref 0)]) rfl rfl (by decide) rfl rfl ?_
  refine x_goto (tgt := 18) rfl rfl ?_
  refine x_iloadn (x := 7) rfl rfl ?_
  refine x_aloadn (x := 0) rfl rfl ?_
  refine y_alen (N := 7) (v := 7) rfl (O3 0 (by decide)).1 (by decide) (by decide) ?_
  refine x_bipush (v := 7) rfl kb_7 ?_
  refine y_isub (v := 0) rfl (by decide) ?_
  refine x_icgt (tgt := 2893) rfl rfl (br_t (by decide) ?_)
  refine x_iconst (v := 1) rfl ki_1 ?_
  refine x_zret rfl rfl (by first | decide | exact jp_01 _) ?_
  exact hQ _
set_option maxRecDepth 100000 in
set_option maxHeartbeats 40000000 in
theorem cs_end {xs : Nat → Int32} {h : jH} {Q : Option Value → jH → Prop} (F : jFb 31 h) (O : jOl 7 xs h) (hQ : ∀ h', Q (some (.int 1)) h') : jX m_L_law 1300 600000 7302249 359 [(3, .int 0), (2, .ref 125), (1, .ref 31), (0, .ref 0)] [] h 143 360892 Q := by
  refine x_aloadn (x := 31) rfl rfl ?_
  refine x_aloadn (x := 0) rfl rfl ?_
  refine x_iloadn (x := 0) rfl rfl ?_
  refine x_iconst (v := 1) rfl ki_1 ?_
  refine y_iadd (v := 1) rfl (by decide) ?_
  refine y_iald (v := xs 1) (N := 7) 1 rfl (O 0 (by decide)).1 (jinb_of (by decide)) (by decide) ((O 0 (by decide)).2 1) ?_
  refine x_inv (N := m_X11_end) (As := [.int (xs 1)]) (b := 31) (st := []) (d' := 100) (mc := 0) (ms := 0) (host := "") 11 rfl t_X11_end ⟨Or.inl q_13_18, i_X11_end.1, i_X11_end.2⟩ ⟨by decide, rfl⟩ (congrArg Prod.fst (F.1 31 (11, 13) rfl rfl)) rfl (by decide) rfl rfl ⟨by decide, by decide⟩ (px_end (xs 1) F O ?_)
  intro h2 F2 O2
  show jX m_L_law 1300 600000 7302249 368 [(3, .int 0), (2, .ref 125), (1, .ref 31), (0, .ref 0)] [.int (sp_end (xs 1))] _ 143 360892 _
  refine x_aloadn (x := 125) rfl rfl ?_
  refine x_aloadn (x := 0) rfl rfl ?_
  refine x_iloadn (x := 0) rfl rfl ?_
  refine x_iconst (v := 1) rfl ki_1 ?_
  refine y_iadd (v := 1) rfl (by decide) ?_
  refine y_iald (v := xs 1) (N := 7) 1 rfl (O2 0 (by decide)).1 (jinb_of (by decide)) (by decide) ((O2 0 (by decide)).2 1) ?_
  refine x_inv (N := m_X12_end) (As := [.int (xs 1)]) (b := 125) (st := [.int (sp_end (xs 1))]) (d' := 100) (mc := 0) (ms := 0) (host := "") 12 rfl t_X12_end ⟨Or.inl q_13_22, i_X12_end.1, i_X12_end.2⟩ ⟨by decide, rfl⟩ (congrArg Prod.fst (F2.1 125 (12, 92) rfl rfl)) rfl (by decide) rfl rfl ⟨by decide, by decide⟩ (pm_end (xs 1) F2 O2 ?_)
  intro h3 O3
  show jX m_L_law 1300 600000 7302249 377 [(3, .int 0), (2, .ref 125), (1, .ref 31), (0, .ref 0)] [.int (sp_end (xs 1)), .int (sp_end (xs 1))] _ 143 360892 _
  refine x_iceq (tgt := 2887) rfl rfl (br_t rfl ?_)
  refine x_iinc (x := 0) (v := 7) (ls' := [(3, .int 7), (2, .ref 125), (1, .ref 31), (0, .ref 0)]) rfl rfl (by decide) rfl rfl ?_
  refine x_goto (tgt := 18) rfl rfl ?_
  refine x_iloadn (x := 7) rfl rfl ?_
  refine x_aloadn (x := 0) rfl rfl ?_
  refine y_alen (N := 7) (v := 7) rfl (O3 0 (by decide)).1 (by decide) (by decide) ?_
  refine x_bipush (v := 7) rfl kb_7 ?_
  refine y_isub (v := 0) rfl (by decide) ?_
  refine x_icgt (tgt := 2893) rfl rfl (br_t (by decide) ?_)
  refine x_iconst (v := 1) rfl ki_1 ?_
  refine x_zret rfl rfl (by first | decide | exact jp_01 _) ?_
  exact hQ _
set_option maxRecDepth 100000 in
set_option maxHeartbeats 40000000 in
theorem cs_fault {xs : Nat → Int32} {h : jH} {Q : Option Value → jH → Prop} (F : jFb 31 h) (O : jOl 7 xs h) (hQ : ∀ h', Q (some (.int 1)) h') : jX m_L_law 1300 600000 7302249 382 [(3, .int 0), (2, .ref 125), (1, .ref 31), (0, .ref 0)] [] h 143 360892 Q := by
  refine x_aloadn (x := 31) rfl rfl ?_
  refine x_inv (N := m_X11_fault) (As := []) (b := 31) (st := []) (d' := 100) (mc := 0) (ms := 0) (host := "") 11 rfl t_X11_fault ⟨Or.inl q_13_23, i_X11_fault.1, i_X11_fault.2⟩ ⟨by decide, rfl⟩ (congrArg Prod.fst (F.1 31 (11, 13) rfl rfl)) rfl (by decide) rfl rfl ⟨by decide, by decide⟩ (px_fault  F O ?_)
  intro h2 F2 O2
  show jX m_L_law 1300 600000 7302249 386 [(3, .int 0), (2, .ref 125), (1, .ref 31), (0, .ref 0)] [.int sp_fault] _ 143 360892 _
  refine x_aloadn (x := 125) rfl rfl ?_
  refine x_inv (N := m_X12_fault) (As := []) (b := 125) (st := [.int sp_fault]) (d' := 100) (mc := 0) (ms := 0) (host := "") 12 rfl t_X12_fault ⟨Or.inl q_13_27, i_X12_fault.1, i_X12_fault.2⟩ ⟨by decide, rfl⟩ (congrArg Prod.fst (F2.1 125 (12, 92) rfl rfl)) rfl (by decide) rfl rfl ⟨by decide, by decide⟩ (pm_fault  F2 O2 ?_)
  intro h3 O3
  show jX m_L_law 1300 600000 7302249 390 [(3, .int 0), (2, .ref 125), (1, .ref 31), (0, .ref 0)] [.int sp_fault, .int sp_fault] _ 143 360892 _
  refine x_iceq (tgt := 2887) rfl rfl (br_t rfl ?_)
  refine x_iinc (x := 0) (v := 7) (ls' := [(3, .int 7), (2, .ref 125), (1, .ref 31), (0, .ref 0)]) rfl rfl (by decide) rfl rfl ?_
  refine x_goto (tgt := 18) rfl rfl ?_
  refine x_iloadn (x := 7) rfl rfl ?_
  refine x_aloadn (x := 0) rfl rfl ?_
  refine y_alen (N := 7) (v := 7) rfl (O3 0 (by decide)).1 (by decide) (by decide) ?_
  refine x_bipush (v := 7) rfl kb_7 ?_
  refine y_isub (v := 0) rfl (by decide) ?_
  refine x_icgt (tgt := 2893) rfl rfl (br_t (by decide) ?_)
  refine x_iconst (v := 1) rfl ki_1 ?_
  refine x_zret rfl rfl (by first | decide | exact jp_01 _) ?_
  exact hQ _
set_option maxRecDepth 100000 in
set_option maxHeartbeats 40000000 in
theorem cs_line {xs : Nat → Int32} {h : jH} {Q : Option Value → jH → Prop} (F : jFb 31 h) (O : jOl 7 xs h) (hQ : ∀ h', Q (some (.int 1)) h') : jX m_L_law 1300 600000 7302249 395 [(3, .int 0), (2, .ref 125), (1, .ref 31), (0, .ref 0)] [] h 143 360892 Q := by
  refine x_aloadn (x := 31) rfl rfl ?_
  refine x_aloadn (x := 0) rfl rfl ?_
  refine x_iloadn (x := 0) rfl rfl ?_
  refine x_iconst (v := 1) rfl ki_1 ?_
  refine y_iadd (v := 1) rfl (by decide) ?_
  refine y_iald (v := xs 1) (N := 7) 1 rfl (O 0 (by decide)).1 (jinb_of (by decide)) (by decide) ((O 0 (by decide)).2 1) ?_
  refine x_aloadn (x := 0) rfl rfl ?_
  refine x_iloadn (x := 0) rfl rfl ?_
  refine x_iconst (v := 2) rfl ki_2 ?_
  refine y_iadd (v := 2) rfl (by decide) ?_
  refine y_iald (v := xs 2) (N := 7) 2 rfl (O 0 (by decide)).1 (jinb_of (by decide)) (by decide) ((O 0 (by decide)).2 2) ?_
  refine x_aloadn (x := 0) rfl rfl ?_
  refine x_iloadn (x := 0) rfl rfl ?_
  refine x_iconst (v := 3) rfl ki_3 ?_
  refine y_iadd (v := 3) rfl (by decide) ?_
  refine y_iald (v := xs 3) (N := 7) 3 rfl (O 0 (by decide)).1 (jinb_of (by decide)) (by decide) ((O 0 (by decide)).2 3) ?_
  refine x_aloadn (x := 0) rfl rfl ?_
  refine x_iloadn (x := 0) rfl rfl ?_
  refine x_iconst (v := 4) rfl ki_4 ?_
  refine y_iadd (v := 4) rfl (by decide) ?_
  refine y_iald (v := xs 4) (N := 7) 4 rfl (O 0 (by decide)).1 (jinb_of (by decide)) (by decide) ((O 0 (by decide)).2 4) ?_
  refine x_aloadn (x := 0) rfl rfl ?_
  refine x_iloadn (x := 0) rfl rfl ?_
  refine x_iconst (v := 5) rfl ki_5 ?_
  refine y_iadd (v := 5) rfl (by decide) ?_
  refine y_iald (v := xs 5) (N := 7) 5 rfl (O 0 (by decide)).1 (jinb_of (by decide)) (by decide) ((O 0 (by decide)).2 5) ?_
  refine x_inv (N := m_X11_line) (As := [.int (xs 1), .int (xs 2), .int (xs 3), .int (xs 4), .int (xs 5)]) (b := 31) (st := []) (d' := 100) (mc := 0) (ms := 0) (host := "") 11 rfl t_X11_line ⟨Or.inl q_13_28, i_X11_line.1, i_X11_line.2⟩ ⟨by decide, rfl⟩ (congrArg Prod.fst (F.1 31 (11, 13) rfl rfl)) rfl (by decide) rfl rfl ⟨by decide, by decide⟩ (px_line (xs 1) (xs 2) (xs 3) (xs 4) (xs 5) F O ?_)
  intro h2 F2 O2
  show jX m_L_law 1300 600000 7302249 424 [(3, .int 0), (2, .ref 125), (1, .ref 31), (0, .ref 0)] [.int (sp_line (xs 1) (xs 2) (xs 3) (xs 4) (xs 5))] _ 143 360892 _
  refine x_aloadn (x := 125) rfl rfl ?_
  refine x_aloadn (x := 0) rfl rfl ?_
  refine x_iloadn (x := 0) rfl rfl ?_
  refine x_iconst (v := 1) rfl ki_1 ?_
  refine y_iadd (v := 1) rfl (by decide) ?_
  refine y_iald (v := xs 1) (N := 7) 1 rfl (O2 0 (by decide)).1 (jinb_of (by decide)) (by decide) ((O2 0 (by decide)).2 1) ?_
  refine x_aloadn (x := 0) rfl rfl ?_
  refine x_iloadn (x := 0) rfl rfl ?_
  refine x_iconst (v := 2) rfl ki_2 ?_
  refine y_iadd (v := 2) rfl (by decide) ?_
  refine y_iald (v := xs 2) (N := 7) 2 rfl (O2 0 (by decide)).1 (jinb_of (by decide)) (by decide) ((O2 0 (by decide)).2 2) ?_
  refine x_aloadn (x := 0) rfl rfl ?_
  refine x_iloadn (x := 0) rfl rfl ?_
  refine x_iconst (v := 3) rfl ki_3 ?_
  refine y_iadd (v := 3) rfl (by decide) ?_
  refine y_iald (v := xs 3) (N := 7) 3 rfl (O2 0 (by decide)).1 (jinb_of (by decide)) (by decide) ((O2 0 (by decide)).2 3) ?_
  refine x_aloadn (x := 0) rfl rfl ?_
  refine x_iloadn (x := 0) rfl rfl ?_
  refine x_iconst (v := 4) rfl ki_4 ?_
  refine y_iadd (v := 4) rfl (by decide) ?_
  refine y_iald (v := xs 4) (N := 7) 4 rfl (O2 0 (by decide)).1 (jinb_of (by decide)) (by decide) ((O2 0 (by decide)).2 4) ?_
  refine x_aloadn (x := 0) rfl rfl ?_
  refine x_iloadn (x := 0) rfl rfl ?_
  refine x_iconst (v := 5) rfl ki_5 ?_
  refine y_iadd (v := 5) rfl (by decide) ?_
  refine y_iald (v := xs 5) (N := 7) 5 rfl (O2 0 (by decide)).1 (jinb_of (by decide)) (by decide) ((O2 0 (by decide)).2 5) ?_
  refine x_inv (N := m_X12_line) (As := [.int (xs 1), .int (xs 2), .int (xs 3), .int (xs 4), .int (xs 5)]) (b := 125) (st := [.int (sp_line (xs 1) (xs 2) (xs 3) (xs 4) (xs 5))]) (d' := 100) (mc := 0) (ms := 0) (host := "") 12 rfl t_X12_line ⟨Or.inl q_13_31, i_X12_line.1, i_X12_line.2⟩ ⟨by decide, rfl⟩ (congrArg Prod.fst (F2.1 125 (12, 92) rfl rfl)) rfl (by decide) rfl rfl ⟨by decide, by decide⟩ (pm_line (xs 1) (xs 2) (xs 3) (xs 4) (xs 5) F2 O2 ?_)
  intro h3 O3
  show jX m_L_law 1300 600000 7302249 453 [(3, .int 0), (2, .ref 125), (1, .ref 31), (0, .ref 0)] [.int (sp_line (xs 1) (xs 2) (xs 3) (xs 4) (xs 5)), .int (sp_line (xs 1) (xs 2) (xs 3) (xs 4) (xs 5))] _ 143 360892 _
  refine x_iceq (tgt := 2887) rfl rfl (br_t rfl ?_)
  refine x_iinc (x := 0) (v := 7) (ls' := [(3, .int 7), (2, .ref 125), (1, .ref 31), (0, .ref 0)]) rfl rfl (by decide) rfl rfl ?_
  refine x_goto (tgt := 18) rfl rfl ?_
  refine x_iloadn (x := 7) rfl rfl ?_
  refine x_aloadn (x := 0) rfl rfl ?_
  refine y_alen (N := 7) (v := 7) rfl (O3 0 (by decide)).1 (by decide) (by decide) ?_
  refine x_bipush (v := 7) rfl kb_7 ?_
  refine y_isub (v := 0) rfl (by decide) ?_
  refine x_icgt (tgt := 2893) rfl rfl (br_t (by decide) ?_)
  refine x_iconst (v := 1) rfl ki_1 ?_
  refine x_zret rfl rfl (by first | decide | exact jp_01 _) ?_
  exact hQ _
set_option maxRecDepth 100000 in
set_option maxHeartbeats 40000000 in
theorem cs_of {xs : Nat → Int32} {h : jH} {Q : Option Value → jH → Prop} (F : jFb 31 h) (O : jOl 7 xs h) (hQ : ∀ h', Q (some (.int 1)) h') : jX m_L_law 1300 600000 7302249 458 [(3, .int 0), (2, .ref 125), (1, .ref 31), (0, .ref 0)] [] h 143 360892 Q := by
  refine x_aloadn (x := 31) rfl rfl ?_
  refine x_aloadn (x := 0) rfl rfl ?_
  refine x_iloadn (x := 0) rfl rfl ?_
  refine x_iconst (v := 1) rfl ki_1 ?_
  refine y_iadd (v := 1) rfl (by decide) ?_
  refine y_iald (v := xs 1) (N := 7) 1 rfl (O 0 (by decide)).1 (jinb_of (by decide)) (by decide) ((O 0 (by decide)).2 1) ?_
  refine x_aloadn (x := 0) rfl rfl ?_
  refine x_iloadn (x := 0) rfl rfl ?_
  refine x_iconst (v := 2) rfl ki_2 ?_
  refine y_iadd (v := 2) rfl (by decide) ?_
  refine y_iald (v := xs 2) (N := 7) 2 rfl (O 0 (by decide)).1 (jinb_of (by decide)) (by decide) ((O 0 (by decide)).2 2) ?_
  refine x_inv (N := m_X11_of) (As := [.int (xs 1), .int (xs 2)]) (b := 31) (st := []) (d' := 100) (mc := 0) (ms := 0) (host := "") 11 rfl t_X11_of ⟨Or.inl q_13_32, i_X11_of.1, i_X11_of.2⟩ ⟨by decide, rfl⟩ (congrArg Prod.fst (F.1 31 (11, 13) rfl rfl)) rfl (by decide) rfl rfl ⟨by decide, by decide⟩ (px_of (xs 1) (xs 2) F O ?_)
  intro h2 F2 O2
  show jX m_L_law 1300 600000 7302249 472 [(3, .int 0), (2, .ref 125), (1, .ref 31), (0, .ref 0)] [.int (sp_of (xs 1) (xs 2))] _ 143 360892 _
  refine x_aloadn (x := 125) rfl rfl ?_
  refine x_aloadn (x := 0) rfl rfl ?_
  refine x_iloadn (x := 0) rfl rfl ?_
  refine x_iconst (v := 1) rfl ki_1 ?_
  refine y_iadd (v := 1) rfl (by decide) ?_
  refine y_iald (v := xs 1) (N := 7) 1 rfl (O2 0 (by decide)).1 (jinb_of (by decide)) (by decide) ((O2 0 (by decide)).2 1) ?_
  refine x_aloadn (x := 0) rfl rfl ?_
  refine x_iloadn (x := 0) rfl rfl ?_
  refine x_iconst (v := 2) rfl ki_2 ?_
  refine y_iadd (v := 2) rfl (by decide) ?_
  refine y_iald (v := xs 2) (N := 7) 2 rfl (O2 0 (by decide)).1 (jinb_of (by decide)) (by decide) ((O2 0 (by decide)).2 2) ?_
  refine x_inv (N := m_X12_of) (As := [.int (xs 1), .int (xs 2)]) (b := 125) (st := [.int (sp_of (xs 1) (xs 2))]) (d' := 100) (mc := 0) (ms := 0) (host := "") 12 rfl t_X12_of ⟨Or.inl q_13_36, i_X12_of.1, i_X12_of.2⟩ ⟨by decide, rfl⟩ (congrArg Prod.fst (F2.1 125 (12, 92) rfl rfl)) rfl (by decide) rfl rfl ⟨by decide, by decide⟩ (pm_of (xs 1) (xs 2) F2 O2 ?_)
  intro h3 O3
  show jX m_L_law 1300 600000 7302249 486 [(3, .int 0), (2, .ref 125), (1, .ref 31), (0, .ref 0)] [.int (sp_of (xs 1) (xs 2)), .int (sp_of (xs 1) (xs 2))] _ 143 360892 _
  refine x_iceq (tgt := 2887) rfl rfl (br_t rfl ?_)
  refine x_iinc (x := 0) (v := 7) (ls' := [(3, .int 7), (2, .ref 125), (1, .ref 31), (0, .ref 0)]) rfl rfl (by decide) rfl rfl ?_
  refine x_goto (tgt := 18) rfl rfl ?_
  refine x_iloadn (x := 7) rfl rfl ?_
  refine x_aloadn (x := 0) rfl rfl ?_
  refine y_alen (N := 7) (v := 7) rfl (O3 0 (by decide)).1 (by decide) (by decide) ?_
  refine x_bipush (v := 7) rfl kb_7 ?_
  refine y_isub (v := 0) rfl (by decide) ?_
  refine x_icgt (tgt := 2893) rfl rfl (br_t (by decide) ?_)
  refine x_iconst (v := 1) rfl ki_1 ?_
  refine x_zret rfl rfl (by first | decide | exact jp_01 _) ?_
  exact hQ _
set_option maxRecDepth 100000 in
set_option maxHeartbeats 40000000 in
theorem cs_spell {xs : Nat → Int32} {h : jH} {Q : Option Value → jH → Prop} (F : jFb 31 h) (O : jOl 7 xs h) (hQ : ∀ h', Q (some (.int 1)) h') : jX m_L_law 1300 600000 7302249 491 [(3, .int 0), (2, .ref 125), (1, .ref 31), (0, .ref 0)] [] h 143 360892 Q := by
  refine x_aloadn (x := 31) rfl rfl ?_
  refine x_aloadn (x := 0) rfl rfl ?_
  refine x_iloadn (x := 0) rfl rfl ?_
  refine x_iconst (v := 1) rfl ki_1 ?_
  refine y_iadd (v := 1) rfl (by decide) ?_
  refine y_iald (v := xs 1) (N := 7) 1 rfl (O 0 (by decide)).1 (jinb_of (by decide)) (by decide) ((O 0 (by decide)).2 1) ?_
  refine x_inv (N := m_X11_spell) (As := [.int (xs 1)]) (b := 31) (st := []) (d' := 100) (mc := 0) (ms := 0) (host := "") 11 rfl t_X11_spell ⟨Or.inl q_13_37, i_X11_spell.1, i_X11_spell.2⟩ ⟨by decide, rfl⟩ (congrArg Prod.fst (F.1 31 (11, 13) rfl rfl)) rfl (by decide) rfl rfl ⟨by decide, by decide⟩ (px_spell (xs 1) F O ?_)
  intro h2 F2 O2
  show jX m_L_law 1300 600000 7302249 500 [(3, .int 0), (2, .ref 125), (1, .ref 31), (0, .ref 0)] [.int (sp_spell (xs 1))] _ 143 360892 _
  refine x_aloadn (x := 125) rfl rfl ?_
  refine x_aloadn (x := 0) rfl rfl ?_
  refine x_iloadn (x := 0) rfl rfl ?_
  refine x_iconst (v := 1) rfl ki_1 ?_
  refine y_iadd (v := 1) rfl (by decide) ?_
  refine y_iald (v := xs 1) (N := 7) 1 rfl (O2 0 (by decide)).1 (jinb_of (by decide)) (by decide) ((O2 0 (by decide)).2 1) ?_
  refine x_inv (N := m_X12_spell) (As := [.int (xs 1)]) (b := 125) (st := [.int (sp_spell (xs 1))]) (d' := 100) (mc := 0) (ms := 0) (host := "") 12 rfl t_X12_spell ⟨Or.inl q_13_40, i_X12_spell.1, i_X12_spell.2⟩ ⟨by decide, rfl⟩ (congrArg Prod.fst (F2.1 125 (12, 92) rfl rfl)) rfl (by decide) rfl rfl ⟨by decide, by decide⟩ (pm_spell (xs 1) F2 O2 ?_)
  intro h3 O3
  show jX m_L_law 1300 600000 7302249 509 [(3, .int 0), (2, .ref 125), (1, .ref 31), (0, .ref 0)] [.int (sp_spell (xs 1)), .int (sp_spell (xs 1))] _ 143 360892 _
  refine x_iceq (tgt := 2887) rfl rfl (br_t rfl ?_)
  refine x_iinc (x := 0) (v := 7) (ls' := [(3, .int 7), (2, .ref 125), (1, .ref 31), (0, .ref 0)]) rfl rfl (by decide) rfl rfl ?_
  refine x_goto (tgt := 18) rfl rfl ?_
  refine x_iloadn (x := 7) rfl rfl ?_
  refine x_aloadn (x := 0) rfl rfl ?_
  refine y_alen (N := 7) (v := 7) rfl (O3 0 (by decide)).1 (by decide) (by decide) ?_
  refine x_bipush (v := 7) rfl kb_7 ?_
  refine y_isub (v := 0) rfl (by decide) ?_
  refine x_icgt (tgt := 2893) rfl rfl (br_t (by decide) ?_)
  refine x_iconst (v := 1) rfl ki_1 ?_
  refine x_zret rfl rfl (by first | decide | exact jp_01 _) ?_
  exact hQ _
set_option maxRecDepth 100000 in
set_option maxHeartbeats 40000000 in
theorem cs_name {xs : Nat → Int32} {h : jH} {Q : Option Value → jH → Prop} (F : jFb 31 h) (O : jOl 7 xs h) (hQ : ∀ h', Q (some (.int 1)) h') : jX m_L_law 1300 600000 7302249 514 [(3, .int 0), (2, .ref 125), (1, .ref 31), (0, .ref 0)] [] h 143 360892 Q := by
  refine x_aloadn (x := 31) rfl rfl ?_
  refine x_aloadn (x := 0) rfl rfl ?_
  refine x_iloadn (x := 0) rfl rfl ?_
  refine x_iconst (v := 1) rfl ki_1 ?_
  refine y_iadd (v := 1) rfl (by decide) ?_
  refine y_iald (v := xs 1) (N := 7) 1 rfl (O 0 (by decide)).1 (jinb_of (by decide)) (by decide) ((O 0 (by decide)).2 1) ?_
  refine x_aloadn (x := 0) rfl rfl ?_
  refine x_iloadn (x := 0) rfl rfl ?_
  refine x_iconst (v := 2) rfl ki_2 ?_
  refine y_iadd (v := 2) rfl (by decide) ?_
  refine y_iald (v := xs 2) (N := 7) 2 rfl (O 0 (by decide)).1 (jinb_of (by decide)) (by decide) ((O 0 (by decide)).2 2) ?_
  refine x_aloadn (x := 0) rfl rfl ?_
  refine x_iloadn (x := 0) rfl rfl ?_
  refine x_iconst (v := 3) rfl ki_3 ?_
  refine y_iadd (v := 3) rfl (by decide) ?_
  refine y_iald (v := xs 3) (N := 7) 3 rfl (O 0 (by decide)).1 (jinb_of (by decide)) (by decide) ((O 0 (by decide)).2 3) ?_
  refine x_inv (N := m_X11_name) (As := [.int (xs 1), .int (xs 2), .int (xs 3)]) (b := 31) (st := []) (d' := 100) (mc := 0) (ms := 0) (host := "") 11 rfl t_X11_name ⟨Or.inl q_13_41, i_X11_name.1, i_X11_name.2⟩ ⟨by decide, rfl⟩ (congrArg Prod.fst (F.1 31 (11, 13) rfl rfl)) rfl (by decide) rfl rfl ⟨by decide, by decide⟩ (px_name (xs 1) (xs 2) (xs 3) F O ?_)
  intro h2 F2 O2
  show jX m_L_law 1300 600000 7302249 533 [(3, .int 0), (2, .ref 125), (1, .ref 31), (0, .ref 0)] [.int (sp_name (xs 1) (xs 2) (xs 3))] _ 143 360892 _
  refine x_aloadn (x := 125) rfl rfl ?_
  refine x_aloadn (x := 0) rfl rfl ?_
  refine x_iloadn (x := 0) rfl rfl ?_
  refine x_iconst (v := 1) rfl ki_1 ?_
  refine y_iadd (v := 1) rfl (by decide) ?_
  refine y_iald (v := xs 1) (N := 7) 1 rfl (O2 0 (by decide)).1 (jinb_of (by decide)) (by decide) ((O2 0 (by decide)).2 1) ?_
  refine x_aloadn (x := 0) rfl rfl ?_
  refine x_iloadn (x := 0) rfl rfl ?_
  refine x_iconst (v := 2) rfl ki_2 ?_
  refine y_iadd (v := 2) rfl (by decide) ?_
  refine y_iald (v := xs 2) (N := 7) 2 rfl (O2 0 (by decide)).1 (jinb_of (by decide)) (by decide) ((O2 0 (by decide)).2 2) ?_
  refine x_aloadn (x := 0) rfl rfl ?_
  refine x_iloadn (x := 0) rfl rfl ?_
  refine x_iconst (v := 3) rfl ki_3 ?_
  refine y_iadd (v := 3) rfl (by decide) ?_
  refine y_iald (v := xs 3) (N := 7) 3 rfl (O2 0 (by decide)).1 (jinb_of (by decide)) (by decide) ((O2 0 (by decide)).2 3) ?_
  refine x_inv (N := m_X12_name) (As := [.int (xs 1), .int (xs 2), .int (xs 3)]) (b := 125) (st := [.int (sp_name (xs 1) (xs 2) (xs 3))]) (d' := 100) (mc := 0) (ms := 0) (host := "") 12 rfl t_X12_name ⟨Or.inl q_13_45, i_X12_name.1, i_X12_name.2⟩ ⟨by decide, rfl⟩ (congrArg Prod.fst (F2.1 125 (12, 92) rfl rfl)) rfl (by decide) rfl rfl ⟨by decide, by decide⟩ (pm_name (xs 1) (xs 2) (xs 3) F2 O2 ?_)
  intro h3 O3
  show jX m_L_law 1300 600000 7302249 552 [(3, .int 0), (2, .ref 125), (1, .ref 31), (0, .ref 0)] [.int (sp_name (xs 1) (xs 2) (xs 3)), .int (sp_name (xs 1) (xs 2) (xs 3))] _ 143 360892 _
  refine x_iceq (tgt := 2887) rfl rfl (br_t rfl ?_)
  refine x_iinc (x := 0) (v := 7) (ls' := [(3, .int 7), (2, .ref 125), (1, .ref 31), (0, .ref 0)]) rfl rfl (by decide) rfl rfl ?_
  refine x_goto (tgt := 18) rfl rfl ?_
  refine x_iloadn (x := 7) rfl rfl ?_
  refine x_aloadn (x := 0) rfl rfl ?_
  refine y_alen (N := 7) (v := 7) rfl (O3 0 (by decide)).1 (by decide) (by decide) ?_
  refine x_bipush (v := 7) rfl kb_7 ?_
  refine y_isub (v := 0) rfl (by decide) ?_
  refine x_icgt (tgt := 2893) rfl rfl (br_t (by decide) ?_)
  refine x_iconst (v := 1) rfl ki_1 ?_
  refine x_zret rfl rfl (by first | decide | exact jp_01 _) ?_
  exact hQ _
set_option maxRecDepth 100000 in
set_option maxHeartbeats 40000000 in
theorem cs_piece {xs : Nat → Int32} {h : jH} {Q : Option Value → jH → Prop} (F : jFb 31 h) (O : jOl 7 xs h) (hQ : ∀ h', Q (some (.int 1)) h') : jX m_L_law 1300 600000 7302249 557 [(3, .int 0), (2, .ref 125), (1, .ref 31), (0, .ref 0)] [] h 143 360892 Q := by
  refine x_aloadn (x := 31) rfl rfl ?_
  refine x_aloadn (x := 0) rfl rfl ?_
  refine x_iloadn (x := 0) rfl rfl ?_
  refine x_iconst (v := 1) rfl ki_1 ?_
  refine y_iadd (v := 1) rfl (by decide) ?_
  refine y_iald (v := xs 1) (N := 7) 1 rfl (O 0 (by decide)).1 (jinb_of (by decide)) (by decide) ((O 0 (by decide)).2 1) ?_
  refine x_aloadn (x := 0) rfl rfl ?_
  refine x_iloadn (x := 0) rfl rfl ?_
  refine x_iconst (v := 2) rfl ki_2 ?_
  refine y_iadd (v := 2) rfl (by decide) ?_
  refine y_iald (v := xs 2) (N := 7) 2 rfl (O 0 (by decide)).1 (jinb_of (by decide)) (by decide) ((O 0 (by decide)).2 2) ?_
  refine x_aloadn (x := 0) rfl rfl ?_
  refine x_iloadn (x := 0) rfl rfl ?_
  refine x_iconst (v := 3) rfl ki_3 ?_
  refine y_iadd (v := 3) rfl (by decide) ?_
  refine y_iald (v := xs 3) (N := 7) 3 rfl (O 0 (by decide)).1 (jinb_of (by decide)) (by decide) ((O 0 (by decide)).2 3) ?_
  refine x_aloadn (x := 0) rfl rfl ?_
  refine x_iloadn (x := 0) rfl rfl ?_
  refine x_iconst (v := 4) rfl ki_4 ?_
  refine y_iadd (v := 4) rfl (by decide) ?_
  refine y_iald (v := xs 4) (N := 7) 4 rfl (O 0 (by decide)).1 (jinb_of (by decide)) (by decide) ((O 0 (by decide)).2 4) ?_
  refine x_inv (N := m_X11_piece) (As := [.int (xs 1), .int (xs 2), .int (xs 3), .int (xs 4)]) (b := 31) (st := []) (d' := 100) (mc := 0) (ms := 0) (host := "") 11 rfl t_X11_piece ⟨Or.inl q_13_46, i_X11_piece.1, i_X11_piece.2⟩ ⟨by decide, rfl⟩ (congrArg Prod.fst (F.1 31 (11, 13) rfl rfl)) rfl (by decide) rfl rfl ⟨by decide, by decide⟩ (px_piece (xs 1) (xs 2) (xs 3) (xs 4) F O ?_)
  intro h2 F2 O2
  show jX m_L_law 1300 600000 7302249 581 [(3, .int 0), (2, .ref 125), (1, .ref 31), (0, .ref 0)] [.int (sp_piece (xs 1) (xs 2) (xs 3) (xs 4))] _ 143 360892 _
  refine x_aloadn (x := 125) rfl rfl ?_
  refine x_aloadn (x := 0) rfl rfl ?_
  refine x_iloadn (x := 0) rfl rfl ?_
  refine x_iconst (v := 1) rfl ki_1 ?_
  refine y_iadd (v := 1) rfl (by decide) ?_
  refine y_iald (v := xs 1) (N := 7) 1 rfl (O2 0 (by decide)).1 (jinb_of (by decide)) (by decide) ((O2 0 (by decide)).2 1) ?_
  refine x_aloadn (x := 0) rfl rfl ?_
  refine x_iloadn (x := 0) rfl rfl ?_
  refine x_iconst (v := 2) rfl ki_2 ?_
  refine y_iadd (v := 2) rfl (by decide) ?_
  refine y_iald (v := xs 2) (N := 7) 2 rfl (O2 0 (by decide)).1 (jinb_of (by decide)) (by decide) ((O2 0 (by decide)).2 2) ?_
  refine x_aloadn (x := 0) rfl rfl ?_
  refine x_iloadn (x := 0) rfl rfl ?_
  refine x_iconst (v := 3) rfl ki_3 ?_
  refine y_iadd (v := 3) rfl (by decide) ?_
  refine y_iald (v := xs 3) (N := 7) 3 rfl (O2 0 (by decide)).1 (jinb_of (by decide)) (by decide) ((O2 0 (by decide)).2 3) ?_
  refine x_aloadn (x := 0) rfl rfl ?_
  refine x_iloadn (x := 0) rfl rfl ?_
  refine x_iconst (v := 4) rfl ki_4 ?_
  refine y_iadd (v := 4) rfl (by decide) ?_
  refine y_iald (v := xs 4) (N := 7) 4 rfl (O2 0 (by decide)).1 (jinb_of (by decide)) (by decide) ((O2 0 (by decide)).2 4) ?_
  refine x_inv (N := m_X12_piece) (As := [.int (xs 1), .int (xs 2), .int (xs 3), .int (xs 4)]) (b := 125) (st := [.int (sp_piece (xs 1) (xs 2) (xs 3) (xs 4))]) (d' := 100) (mc := 0) (ms := 0) (host := "") 12 rfl t_X12_piece ⟨Or.inl q_13_50, i_X12_piece.1, i_X12_piece.2⟩ ⟨by decide, rfl⟩ (congrArg Prod.fst (F2.1 125 (12, 92) rfl rfl)) rfl (by decide) rfl rfl ⟨by decide, by decide⟩ (pm_piece (xs 1) (xs 2) (xs 3) (xs 4) F2 O2 ?_)
  intro h3 O3
  show jX m_L_law 1300 600000 7302249 605 [(3, .int 0), (2, .ref 125), (1, .ref 31), (0, .ref 0)] [.int (sp_piece (xs 1) (xs 2) (xs 3) (xs 4)), .int (sp_piece (xs 1) (xs 2) (xs 3) (xs 4))] _ 143 360892 _
  refine x_iceq (tgt := 2887) rfl rfl (br_t rfl ?_)
  refine x_iinc (x := 0) (v := 7) (ls' := [(3, .int 7), (2, .ref 125), (1, .ref 31), (0, .ref 0)]) rfl rfl (by decide) rfl rfl ?_
  refine x_goto (tgt := 18) rfl rfl ?_
  refine x_iloadn (x := 7) rfl rfl ?_
  refine x_aloadn (x := 0) rfl rfl ?_
  refine y_alen (N := 7) (v := 7) rfl (O3 0 (by decide)).1 (by decide) (by decide) ?_
  refine x_bipush (v := 7) rfl kb_7 ?_
  refine y_isub (v := 0) rfl (by decide) ?_
  refine x_icgt (tgt := 2893) rfl rfl (br_t (by decide) ?_)
  refine x_iconst (v := 1) rfl ki_1 ?_
  refine x_zret rfl rfl (by first | decide | exact jp_01 _) ?_
  exact hQ _
set_option maxRecDepth 100000 in
set_option maxHeartbeats 40000000 in
theorem cs_terms {xs : Nat → Int32} {h : jH} {Q : Option Value → jH → Prop} (F : jFb 31 h) (O : jOl 7 xs h) (hQ : ∀ h', Q (some (.int 1)) h') : jX m_L_law 1300 600000 7302249 610 [(3, .int 0), (2, .ref 125), (1, .ref 31), (0, .ref 0)] [] h 143 360892 Q := by
  refine x_aloadn (x := 31) rfl rfl ?_
  refine x_aloadn (x := 0) rfl rfl ?_
  refine x_iloadn (x := 0) rfl rfl ?_
  refine x_iconst (v := 1) rfl ki_1 ?_
  refine y_iadd (v := 1) rfl (by decide) ?_
  refine y_iald (v := xs 1) (N := 7) 1 rfl (O 0 (by decide)).1 (jinb_of (by decide)) (by decide) ((O 0 (by decide)).2 1) ?_
  refine x_aloadn (x := 0) rfl rfl ?_
  refine x_iloadn (x := 0) rfl rfl ?_
  refine x_iconst (v := 2) rfl ki_2 ?_
  refine y_iadd (v := 2) rfl (by decide) ?_
  refine y_iald (v := xs 2) (N := 7) 2 rfl (O 0 (by decide)).1 (jinb_of (by decide)) (by decide) ((O 0 (by decide)).2 2) ?_
  refine x_aloadn (x := 0) rfl rfl ?_
  refine x_iloadn (x := 0) rfl rfl ?_
  refine x_iconst (v := 3) rfl ki_3 ?_
  refine y_iadd (v := 3) rfl (by decide) ?_
  refine y_iald (v := xs 3) (N := 7) 3 rfl (O 0 (by decide)).1 (jinb_of (by decide)) (by decide) ((O 0 (by decide)).2 3) ?_
  refine x_aloadn (x := 0) rfl rfl ?_
  refine x_iloadn (x := 0) rfl rfl ?_
  refine x_iconst (v := 4) rfl ki_4 ?_
  refine y_iadd (v := 4) rfl (by decide) ?_
  refine y_iald (v := xs 4) (N := 7) 4 rfl (O 0 (by decide)).1 (jinb_of (by decide)) (by decide) ((O 0 (by decide)).2 4) ?_
  refine x_aloadn (x := 0) rfl rfl ?_
  refine x_iloadn (x := 0) rfl rfl ?_
  refine x_iconst (v := 5) rfl ki_5 ?_
  refine y_iadd (v := 5) rfl (by decide) ?_
  refine y_iald (v := xs 5) (N := 7) 5 rfl (O 0 (by decide)).1 (jinb_of (by decide)) (by decide) ((O 0 (by decide)).2 5) ?_
  refine x_inv (N := m_X11_terms) (As := [.int (xs 1), .int (xs 2), .int (xs 3), .int (xs 4), .int (xs 5)]) (b := 31) (st := []) (d' := 100) (mc := 0) (ms := 0) (host := "") 11 rfl t_X11_terms ⟨Or.inl q_13_51, i_X11_terms.1, i_X11_terms.2⟩ ⟨by decide, rfl⟩ (congrArg Prod.fst (F.1 31 (11, 13) rfl rfl)) rfl (by decide) rfl rfl ⟨by decide, by decide⟩ (px_terms (xs 1) (xs 2) (xs 3) (xs 4) (xs 5) F O ?_)
  intro h2 F2 O2
  show jX m_L_law 1300 600000 7302249 639 [(3, .int 0), (2, .ref 125), (1, .ref 31), (0, .ref 0)] [.int (sp_terms (xs 1) (xs 2) (xs 3) (xs 4) (xs 5))] _ 143 360892 _
  refine x_aloadn (x := 125) rfl rfl ?_
  refine x_aloadn (x := 0) rfl rfl ?_
  refine x_iloadn (x := 0) rfl rfl ?_
  refine x_iconst (v := 1) rfl ki_1 ?_
  refine y_iadd (v := 1) rfl (by decide) ?_
  refine y_iald (v := xs 1) (N := 7) 1 rfl (O2 0 (by decide)).1 (jinb_of (by decide)) (by decide) ((O2 0 (by decide)).2 1) ?_
  refine x_aloadn (x := 0) rfl rfl ?_
  refine x_iloadn (x := 0) rfl rfl ?_
  refine x_iconst (v := 2) rfl ki_2 ?_
  refine y_iadd (v := 2) rfl (by decide) ?_
  refine y_iald (v := xs 2) (N := 7) 2 rfl (O2 0 (by decide)).1 (jinb_of (by decide)) (by decide) ((O2 0 (by decide)).2 2) ?_
  refine x_aloadn (x := 0) rfl rfl ?_
  refine x_iloadn (x := 0) rfl rfl ?_
  refine x_iconst (v := 3) rfl ki_3 ?_
  refine y_iadd (v := 3) rfl (by decide) ?_
  refine y_iald (v := xs 3) (N := 7) 3 rfl (O2 0 (by decide)).1 (jinb_of (by decide)) (by decide) ((O2 0 (by decide)).2 3) ?_
  refine x_aloadn (x := 0) rfl rfl ?_
  refine x_iloadn (x := 0) rfl rfl ?_
  refine x_iconst (v := 4) rfl ki_4 ?_
  refine y_iadd (v := 4) rfl (by decide) ?_
  refine y_iald (v := xs 4) (N := 7) 4 rfl (O2 0 (by decide)).1 (jinb_of (by decide)) (by decide) ((O2 0 (by decide)).2 4) ?_
  refine x_aloadn (x := 0) rfl rfl ?_
  refine x_iloadn (x := 0) rfl rfl ?_
  refine x_iconst (v := 5) rfl ki_5 ?_
  refine y_iadd (v := 5) rfl (by decide) ?_
  refine y_iald (v := xs 5) (N := 7) 5 rfl (O2 0 (by decide)).1 (jinb_of (by decide)) (by decide) ((O2 0 (by decide)).2 5) ?_
  refine x_inv (N := m_X12_terms) (As := [.int (xs 1), .int (xs 2), .int (xs 3), .int (xs 4), .int (xs 5)]) (b := 125) (st := [.int (sp_terms (xs 1) (xs 2) (xs 3) (xs 4) (xs 5))]) (d' := 100) (mc := 0) (ms := 0) (host := "") 12 rfl t_X12_terms ⟨Or.inl q_13_54, i_X12_terms.1, i_X12_terms.2⟩ ⟨by decide, rfl⟩ (congrArg Prod.fst (F2.1 125 (12, 92) rfl rfl)) rfl (by decide) rfl rfl ⟨by decide, by decide⟩ (pm_terms (xs 1) (xs 2) (xs 3) (xs 4) (xs 5) F2 O2 ?_)
  intro h3 O3
  show jX m_L_law 1300 600000 7302249 668 [(3, .int 0), (2, .ref 125), (1, .ref 31), (0, .ref 0)] [.int (sp_terms (xs 1) (xs 2) (xs 3) (xs 4) (xs 5)), .int (sp_terms (xs 1) (xs 2) (xs 3) (xs 4) (xs 5))] _ 143 360892 _
  refine x_iceq (tgt := 2887) rfl rfl (br_t rfl ?_)
  refine x_iinc (x := 0) (v := 7) (ls' := [(3, .int 7), (2, .ref 125), (1, .ref 31), (0, .ref 0)]) rfl rfl (by decide) rfl rfl ?_
  refine x_goto (tgt := 18) rfl rfl ?_
  refine x_iloadn (x := 7) rfl rfl ?_
  refine x_aloadn (x := 0) rfl rfl ?_
  refine y_alen (N := 7) (v := 7) rfl (O3 0 (by decide)).1 (by decide) (by decide) ?_
  refine x_bipush (v := 7) rfl kb_7 ?_
  refine y_isub (v := 0) rfl (by decide) ?_
  refine x_icgt (tgt := 2893) rfl rfl (br_t (by decide) ?_)
  refine x_iconst (v := 1) rfl ki_1 ?_
  refine x_zret rfl rfl (by first | decide | exact jp_01 _) ?_
  exact hQ _
set_option maxRecDepth 100000 in
set_option maxHeartbeats 40000000 in
theorem cs_reason {xs : Nat → Int32} {h : jH} {Q : Option Value → jH → Prop} (F : jFb 31 h) (O : jOl 7 xs h) (hQ : ∀ h', Q (some (.int 1)) h') : jX m_L_law 1300 600000 7302249 673 [(3, .int 0), (2, .ref 125), (1, .ref 31), (0, .ref 0)] [] h 143 360892 Q := by
  refine x_aloadn (x := 31) rfl rfl ?_
  refine x_aloadn (x := 0) rfl rfl ?_
  refine x_iloadn (x := 0) rfl rfl ?_
  refine x_iconst (v := 1) rfl ki_1 ?_
  refine y_iadd (v := 1) rfl (by decide) ?_
  refine y_iald (v := xs 1) (N := 7) 1 rfl (O 0 (by decide)).1 (jinb_of (by decide)) (by decide) ((O 0 (by decide)).2 1) ?_
  refine x_aloadn (x := 0) rfl rfl ?_
  refine x_iloadn (x := 0) rfl rfl ?_
  refine x_iconst (v := 2) rfl ki_2 ?_
  refine y_iadd (v := 2) rfl (by decide) ?_
  refine y_iald (v := xs 2) (N := 7) 2 rfl (O 0 (by decide)).1 (jinb_of (by decide)) (by decide) ((O 0 (by decide)).2 2) ?_
  refine x_inv (N := m_X11_reason) (As := [.int (xs 1), .int (xs 2)]) (b := 31) (st := []) (d' := 100) (mc := 0) (ms := 0) (host := "") 11 rfl t_X11_reason ⟨Or.inl q_13_55, i_X11_reason.1, i_X11_reason.2⟩ ⟨by decide, rfl⟩ (congrArg Prod.fst (F.1 31 (11, 13) rfl rfl)) rfl (by decide) rfl rfl ⟨by decide, by decide⟩ (px_reason (xs 1) (xs 2) F O ?_)
  intro h2 F2 O2
  show jX m_L_law 1300 600000 7302249 687 [(3, .int 0), (2, .ref 125), (1, .ref 31), (0, .ref 0)] [.int (sp_reason (xs 1) (xs 2))] _ 143 360892 _
  refine x_aloadn (x := 125) rfl rfl ?_
  refine x_aloadn (x := 0) rfl rfl ?_
  refine x_iloadn (x := 0) rfl rfl ?_
  refine x_iconst (v := 1) rfl ki_1 ?_
  refine y_iadd (v := 1) rfl (by decide) ?_
  refine y_iald (v := xs 1) (N := 7) 1 rfl (O2 0 (by decide)).1 (jinb_of (by decide)) (by decide) ((O2 0 (by decide)).2 1) ?_
  refine x_aloadn (x := 0) rfl rfl ?_
  refine x_iloadn (x := 0) rfl rfl ?_
  refine x_iconst (v := 2) rfl ki_2 ?_
  refine y_iadd (v := 2) rfl (by decide) ?_
  refine y_iald (v := xs 2) (N := 7) 2 rfl (O2 0 (by decide)).1 (jinb_of (by decide)) (by decide) ((O2 0 (by decide)).2 2) ?_
  refine x_inv (N := m_X12_reason) (As := [.int (xs 1), .int (xs 2)]) (b := 125) (st := [.int (sp_reason (xs 1) (xs 2))]) (d' := 100) (mc := 0) (ms := 0) (host := "") 12 rfl t_X12_reason ⟨Or.inl q_13_58, i_X12_reason.1, i_X12_reason.2⟩ ⟨by decide, rfl⟩ (congrArg Prod.fst (F2.1 125 (12, 92) rfl rfl)) rfl (by decide) rfl rfl ⟨by decide, by decide⟩ (pm_reason (xs 1) (xs 2) F2 O2 ?_)
  intro h3 O3
  show jX m_L_law 1300 600000 7302249 701 [(3, .int 0), (2, .ref 125), (1, .ref 31), (0, .ref 0)] [.int (sp_reason (xs 1) (xs 2)), .int (sp_reason (xs 1) (xs 2))] _ 143 360892 _
  refine x_iceq (tgt := 2887) rfl rfl (br_t rfl ?_)
  refine x_iinc (x := 0) (v := 7) (ls' := [(3, .int 7), (2, .ref 125), (1, .ref 31), (0, .ref 0)]) rfl rfl (by decide) rfl rfl ?_
  refine x_goto (tgt := 18) rfl rfl ?_
  refine x_iloadn (x := 7) rfl rfl ?_
  refine x_aloadn (x := 0) rfl rfl ?_
  refine y_alen (N := 7) (v := 7) rfl (O3 0 (by decide)).1 (by decide) (by decide) ?_
  refine x_bipush (v := 7) rfl kb_7 ?_
  refine y_isub (v := 0) rfl (by decide) ?_
  refine x_icgt (tgt := 2893) rfl rfl (br_t (by decide) ?_)
  refine x_iconst (v := 1) rfl ki_1 ?_
  refine x_zret rfl rfl (by first | decide | exact jp_01 _) ?_
  exact hQ _
set_option maxRecDepth 100000 in
set_option maxHeartbeats 40000000 in
theorem cs_worth {xs : Nat → Int32} {h : jH} {Q : Option Value → jH → Prop} (F : jFb 31 h) (O : jOl 7 xs h) (hQ : ∀ h', Q (some (.int 1)) h') : jX m_L_law 1300 600000 7302249 706 [(3, .int 0), (2, .ref 125), (1, .ref 31), (0, .ref 0)] [] h 143 360892 Q := by
  refine x_aloadn (x := 31) rfl rfl ?_
  refine x_aloadn (x := 0) rfl rfl ?_
  refine x_iloadn (x := 0) rfl rfl ?_
  refine x_iconst (v := 1) rfl ki_1 ?_
  refine y_iadd (v := 1) rfl (by decide) ?_
  refine y_iald (v := xs 1) (N := 7) 1 rfl (O 0 (by decide)).1 (jinb_of (by decide)) (by decide) ((O 0 (by decide)).2 1) ?_
  refine x_aloadn (x := 0) rfl rfl ?_
  refine x_iloadn (x := 0) rfl rfl ?_
  refine x_iconst (v := 2) rfl ki_2 ?_
  refine y_iadd (v := 2) rfl (by decide) ?_
  refine y_iald (v := xs 2) (N := 7) 2 rfl (O 0 (by decide)).1 (jinb_of (by decide)) (by decide) ((O 0 (by decide)).2 2) ?_
  refine x_inv (N := m_X11_worth) (As := [.int (xs 1), .int (xs 2)]) (b := 31) (st := []) (d' := 100) (mc := 0) (ms := 0) (host := "") 11 rfl t_X11_worth ⟨Or.inl q_13_59, i_X11_worth.1, i_X11_worth.2⟩ ⟨by decide, rfl⟩ (congrArg Prod.fst (F.1 31 (11, 13) rfl rfl)) rfl (by decide) rfl rfl ⟨by decide, by decide⟩ (px_worth (xs 1) (xs 2) F O ?_)
  intro h2 F2 O2
  show jX m_L_law 1300 600000 7302249 720 [(3, .int 0), (2, .ref 125), (1, .ref 31), (0, .ref 0)] [.int (sp_worth (xs 1) (xs 2))] _ 143 360892 _
  refine x_aloadn (x := 125) rfl rfl ?_
  refine x_aloadn (x := 0) rfl rfl ?_
  refine x_iloadn (x := 0) rfl rfl ?_
  refine x_iconst (v := 1) rfl ki_1 ?_
  refine y_iadd (v := 1) rfl (by decide) ?_
  refine y_iald (v := xs 1) (N := 7) 1 rfl (O2 0 (by decide)).1 (jinb_of (by decide)) (by decide) ((O2 0 (by decide)).2 1) ?_
  refine x_aloadn (x := 0) rfl rfl ?_
  refine x_iloadn (x := 0) rfl rfl ?_
  refine x_iconst (v := 2) rfl ki_2 ?_
  refine y_iadd (v := 2) rfl (by decide) ?_
  refine y_iald (v := xs 2) (N := 7) 2 rfl (O2 0 (by decide)).1 (jinb_of (by decide)) (by decide) ((O2 0 (by decide)).2 2) ?_
  refine x_inv (N := m_X12_worth) (As := [.int (xs 1), .int (xs 2)]) (b := 125) (st := [.int (sp_worth (xs 1) (xs 2))]) (d' := 100) (mc := 0) (ms := 0) (host := "") 12 rfl t_X12_worth ⟨Or.inl q_13_62, i_X12_worth.1, i_X12_worth.2⟩ ⟨by decide, rfl⟩ (congrArg Prod.fst (F2.1 125 (12, 92) rfl rfl)) rfl (by decide) rfl rfl ⟨by decide, by decide⟩ (pm_worth (xs 1) (xs 2) F2 O2 ?_)
  intro h3 O3
  show jX m_L_law 1300 600000 7302249 734 [(3, .int 0), (2, .ref 125), (1, .ref 31), (0, .ref 0)] [.int (sp_worth (xs 1) (xs 2)), .int (sp_worth (xs 1) (xs 2))] _ 143 360892 _
  refine x_iceq (tgt := 2887) rfl rfl (br_t rfl ?_)
  refine x_iinc (x := 0) (v := 7) (ls' := [(3, .int 7), (2, .ref 125), (1, .ref 31), (0, .ref 0)]) rfl rfl (by decide) rfl rfl ?_
  refine x_goto (tgt := 18) rfl rfl ?_
  refine x_iloadn (x := 7) rfl rfl ?_
  refine x_aloadn (x := 0) rfl rfl ?_
  refine y_alen (N := 7) (v := 7) rfl (O3 0 (by decide)).1 (by decide) (by decide) ?_
  refine x_bipush (v := 7) rfl kb_7 ?_
  refine y_isub (v := 0) rfl (by decide) ?_
  refine x_icgt (tgt := 2893) rfl rfl (br_t (by decide) ?_)
  refine x_iconst (v := 1) rfl ki_1 ?_
  refine x_zret rfl rfl (by first | decide | exact jp_01 _) ?_
  exact hQ _
set_option maxRecDepth 100000 in
set_option maxHeartbeats 40000000 in
theorem cs_apart {xs : Nat → Int32} {h : jH} {Q : Option Value → jH → Prop} (F : jFb 31 h) (O : jOl 7 xs h) (hQ : ∀ h', Q (some (.int 1)) h') : jX m_L_law 1300 600000 7302249 739 [(3, .int 0), (2, .ref 125), (1, .ref 31), (0, .ref 0)] [] h 143 360892 Q := by
  refine x_aloadn (x := 31) rfl rfl ?_
  refine x_aloadn (x := 0) rfl rfl ?_
  refine x_iloadn (x := 0) rfl rfl ?_
  refine x_iconst (v := 1) rfl ki_1 ?_
  refine y_iadd (v := 1) rfl (by decide) ?_
  refine y_iald (v := xs 1) (N := 7) 1 rfl (O 0 (by decide)).1 (jinb_of (by decide)) (by decide) ((O 0 (by decide)).2 1) ?_
  refine x_aloadn (x := 0) rfl rfl ?_
  refine x_iloadn (x := 0) rfl rfl ?_
  refine x_iconst (v := 2) rfl ki_2 ?_
  refine y_iadd (v := 2) rfl (by decide) ?_
  refine y_iald (v := xs 2) (N := 7) 2 rfl (O 0 (by decide)).1 (jinb_of (by decide)) (by decide) ((O 0 (by decide)).2 2) ?_
  refine x_inv (N := m_X11_apart) (As := [.int (xs 1), .int (xs 2)]) (b := 31) (st := []) (d' := 100) (mc := 0) (ms := 0) (host := "") 11 rfl t_X11_apart ⟨Or.inl q_13_63, i_X11_apart.1, i_X11_apart.2⟩ ⟨by decide, rfl⟩ (congrArg Prod.fst (F.1 31 (11, 13) rfl rfl)) rfl (by decide) rfl rfl ⟨by decide, by decide⟩ (px_apart (xs 1) (xs 2) F O ?_)
  intro h2 F2 O2
  show jX m_L_law 1300 600000 7302249 753 [(3, .int 0), (2, .ref 125), (1, .ref 31), (0, .ref 0)] [.int (sp_apart (xs 1) (xs 2))] _ 143 360892 _
  refine x_aloadn (x := 125) rfl rfl ?_
  refine x_aloadn (x := 0) rfl rfl ?_
  refine x_iloadn (x := 0) rfl rfl ?_
  refine x_iconst (v := 1) rfl ki_1 ?_
  refine y_iadd (v := 1) rfl (by decide) ?_
  refine y_iald (v := xs 1) (N := 7) 1 rfl (O2 0 (by decide)).1 (jinb_of (by decide)) (by decide) ((O2 0 (by decide)).2 1) ?_
  refine x_aloadn (x := 0) rfl rfl ?_
  refine x_iloadn (x := 0) rfl rfl ?_
  refine x_iconst (v := 2) rfl ki_2 ?_
  refine y_iadd (v := 2) rfl (by decide) ?_
  refine y_iald (v := xs 2) (N := 7) 2 rfl (O2 0 (by decide)).1 (jinb_of (by decide)) (by decide) ((O2 0 (by decide)).2 2) ?_
  refine x_inv (N := m_X12_apart) (As := [.int (xs 1), .int (xs 2)]) (b := 125) (st := [.int (sp_apart (xs 1) (xs 2))]) (d' := 100) (mc := 0) (ms := 0) (host := "") 12 rfl t_X12_apart ⟨Or.inl q_13_66, i_X12_apart.1, i_X12_apart.2⟩ ⟨by decide, rfl⟩ (congrArg Prod.fst (F2.1 125 (12, 92) rfl rfl)) rfl (by decide) rfl rfl ⟨by decide, by decide⟩ (pm_apart (xs 1) (xs 2) F2 O2 ?_)
  intro h3 O3
  show jX m_L_law 1300 600000 7302249 767 [(3, .int 0), (2, .ref 125), (1, .ref 31), (0, .ref 0)] [.int (sp_apart (xs 1) (xs 2)), .int (sp_apart (xs 1) (xs 2))] _ 143 360892 _
  refine x_iceq (tgt := 2887) rfl rfl (br_t rfl ?_)
  refine x_iinc (x := 0) (v := 7) (ls' := [(3, .int 7), (2, .ref 125), (1, .ref 31), (0, .ref 0)]) rfl rfl (by decide) rfl rfl ?_
  refine x_goto (tgt := 18) rfl rfl ?_
  refine x_iloadn (x := 7) rfl rfl ?_
  refine x_aloadn (x := 0) rfl rfl ?_
  refine y_alen (N := 7) (v := 7) rfl (O3 0 (by decide)).1 (by decide) (by decide) ?_
  refine x_bipush (v := 7) rfl kb_7 ?_
  refine y_isub (v := 0) rfl (by decide) ?_
  refine x_icgt (tgt := 2893) rfl rfl (br_t (by decide) ?_)
  refine x_iconst (v := 1) rfl ki_1 ?_
  refine x_zret rfl rfl (by first | decide | exact jp_01 _) ?_
  exact hQ _
set_option maxRecDepth 100000 in
set_option maxHeartbeats 40000000 in
theorem cs_together {xs : Nat → Int32} {h : jH} {Q : Option Value → jH → Prop} (F : jFb 31 h) (O : jOl 7 xs h) (hQ : ∀ h', Q (some (.int 1)) h') : jX m_L_law 1300 600000 7302249 772 [(3, .int 0), (2, .ref 125), (1, .ref 31), (0, .ref 0)] [] h 143 360892 Q := by
  refine x_aloadn (x := 31) rfl rfl ?_
  refine x_aloadn (x := 0) rfl rfl ?_
  refine x_iloadn (x := 0) rfl rfl ?_
  refine x_iconst (v := 1) rfl ki_1 ?_
  refine y_iadd (v := 1) rfl (by decide) ?_
  refine y_iald (v := xs 1) (N := 7) 1 rfl (O 0 (by decide)).1 (jinb_of (by decide)) (by decide) ((O 0 (by decide)).2 1) ?_
  refine x_aloadn (x := 0) rfl rfl ?_
  refine x_iloadn (x := 0) rfl rfl ?_
  refine x_iconst (v := 2) rfl ki_2 ?_
  refine y_iadd (v := 2) rfl (by decide) ?_
  refine y_iald (v := xs 2) (N := 7) 2 rfl (O 0 (by decide)).1 (jinb_of (by decide)) (by decide) ((O 0 (by decide)).2 2) ?_
  refine x_aloadn (x := 0) rfl rfl ?_
  refine x_iloadn (x := 0) rfl rfl ?_
  refine x_iconst (v := 3) rfl ki_3 ?_
  refine y_iadd (v := 3) rfl (by decide) ?_
  refine y_iald (v := xs 3) (N := 7) 3 rfl (O 0 (by decide)).1 (jinb_of (by decide)) (by decide) ((O 0 (by decide)).2 3) ?_
  refine x_inv (N := m_X11_together) (As := [.int (xs 1), .int (xs 2), .int (xs 3)]) (b := 31) (st := []) (d' := 100) (mc := 0) (ms := 0) (host := "") 11 rfl t_X11_together ⟨Or.inl q_13_67, i_X11_together.1, i_X11_together.2⟩ ⟨by decide, rfl⟩ (congrArg Prod.fst (F.1 31 (11, 13) rfl rfl)) rfl (by decide) rfl rfl ⟨by decide, by decide⟩ (px_together (xs 1) (xs 2) (xs 3) F O ?_)
  intro h2 F2 O2
  show jX m_L_law 1300 600000 7302249 791 [(3, .int 0), (2, .ref 125), (1, .ref 31), (0, .ref 0)] [.int (sp_together (xs 1) (xs 2) (xs 3))] _ 143 360892 _
  refine x_aloadn (x := 125) rfl rfl ?_
  refine x_aloadn (x := 0) rfl rfl ?_
  refine x_iloadn (x := 0) rfl rfl ?_
  refine x_iconst (v := 1) rfl ki_1 ?_
  refine y_iadd (v := 1) rfl (by decide) ?_
  refine y_iald (v := xs 1) (N := 7) 1 rfl (O2 0 (by decide)).1 (jinb_of (by decide)) (by decide) ((O2 0 (by decide)).2 1) ?_
  refine x_aloadn (x := 0) rfl rfl ?_
  refine x_iloadn (x := 0) rfl rfl ?_
  refine x_iconst (v := 2) rfl ki_2 ?_
  refine y_iadd (v := 2) rfl (by decide) ?_
  refine y_iald (v := xs 2) (N := 7) 2 rfl (O2 0 (by decide)).1 (jinb_of (by decide)) (by decide) ((O2 0 (by decide)).2 2) ?_
  refine x_aloadn (x := 0) rfl rfl ?_
  refine x_iloadn (x := 0) rfl rfl ?_
  refine x_iconst (v := 3) rfl ki_3 ?_
  refine y_iadd (v := 3) rfl (by decide) ?_
  refine y_iald (v := xs 3) (N := 7) 3 rfl (O2 0 (by decide)).1 (jinb_of (by decide)) (by decide) ((O2 0 (by decide)).2 3) ?_
  refine x_inv (N := m_X12_together) (As := [.int (xs 1), .int (xs 2), .int (xs 3)]) (b := 125) (st := [.int (sp_together (xs 1) (xs 2) (xs 3))]) (d' := 100) (mc := 0) (ms := 0) (host := "") 12 rfl t_X12_together ⟨Or.inl q_13_70, i_X12_together.1, i_X12_together.2⟩ ⟨by decide, rfl⟩ (congrArg Prod.fst (F2.1 125 (12, 92) rfl rfl)) rfl (by decide) rfl rfl ⟨by decide, by decide⟩ (pm_together (xs 1) (xs 2) (xs 3) F2 O2 ?_)
  intro h3 O3
  show jX m_L_law 1300 600000 7302249 810 [(3, .int 0), (2, .ref 125), (1, .ref 31), (0, .ref 0)] [.int (sp_together (xs 1) (xs 2) (xs 3)), .int (sp_together (xs 1) (xs 2) (xs 3))] _ 143 360892 _
  refine x_iceq (tgt := 2887) rfl rfl (br_t rfl ?_)
  refine x_iinc (x := 0) (v := 7) (ls' := [(3, .int 7), (2, .ref 125), (1, .ref 31), (0, .ref 0)]) rfl rfl (by decide) rfl rfl ?_
  refine x_goto (tgt := 18) rfl rfl ?_
  refine x_iloadn (x := 7) rfl rfl ?_
  refine x_aloadn (x := 0) rfl rfl ?_
  refine y_alen (N := 7) (v := 7) rfl (O3 0 (by decide)).1 (by decide) (by decide) ?_
  refine x_bipush (v := 7) rfl kb_7 ?_
  refine y_isub (v := 0) rfl (by decide) ?_
  refine x_icgt (tgt := 2893) rfl rfl (br_t (by decide) ?_)
  refine x_iconst (v := 1) rfl ki_1 ?_
  refine x_zret rfl rfl (by first | decide | exact jp_01 _) ?_
  exact hQ _
set_option maxRecDepth 100000 in
set_option maxHeartbeats 40000000 in
theorem cs_waits {xs : Nat → Int32} {h : jH} {Q : Option Value → jH → Prop} (F : jFb 31 h) (O : jOl 7 xs h) (hQ : ∀ h', Q (some (.int 1)) h') : jX m_L_law 1300 600000 7302249 815 [(3, .int 0), (2, .ref 125), (1, .ref 31), (0, .ref 0)] [] h 143 360892 Q := by
  refine x_aloadn (x := 31) rfl rfl ?_
  refine x_aloadn (x := 0) rfl rfl ?_
  refine x_iloadn (x := 0) rfl rfl ?_
  refine x_iconst (v := 1) rfl ki_1 ?_
  refine y_iadd (v := 1) rfl (by decide) ?_
  refine y_iald (v := xs 1) (N := 7) 1 rfl (O 0 (by decide)).1 (jinb_of (by decide)) (by decide) ((O 0 (by decide)).2 1) ?_
  refine x_aloadn (x := 0) rfl rfl ?_
  refine x_iloadn (x := 0) rfl rfl ?_
  refine x_iconst (v := 2) rfl ki_2 ?_
  refine y_iadd (v := 2) rfl (by decide) ?_
  refine y_iald (v := xs 2) (N := 7) 2 rfl (O 0 (by decide)).1 (jinb_of (by decide)) (by decide) ((O 0 (by decide)).2 2) ?_
  refine x_inv (N := m_X11_waits) (As := [.int (xs 1), .int (xs 2)]) (b := 31) (st := []) (d' := 100) (mc := 0) (ms := 0) (host := "") 11 rfl t_X11_waits ⟨Or.inl q_13_71, i_X11_waits.1, i_X11_waits.2⟩ ⟨by decide, rfl⟩ (congrArg Prod.fst (F.1 31 (11, 13) rfl rfl)) rfl (by decide) rfl rfl ⟨by decide, by decide⟩ (px_waits (xs 1) (xs 2) F O ?_)
  intro h2 F2 O2
  show jX m_L_law 1300 600000 7302249 829 [(3, .int 0), (2, .ref 125), (1, .ref 31), (0, .ref 0)] [.int (sp_waits (xs 1) (xs 2))] _ 143 360892 _
  refine x_aloadn (x := 125) rfl rfl ?_
  refine x_aloadn (x := 0) rfl rfl ?_
  refine x_iloadn (x := 0) rfl rfl ?_
  refine x_iconst (v := 1) rfl ki_1 ?_
  refine y_iadd (v := 1) rfl (by decide) ?_
  refine y_iald (v := xs 1) (N := 7) 1 rfl (O2 0 (by decide)).1 (jinb_of (by decide)) (by decide) ((O2 0 (by decide)).2 1) ?_
  refine x_aloadn (x := 0) rfl rfl ?_
  refine x_iloadn (x := 0) rfl rfl ?_
  refine x_iconst (v := 2) rfl ki_2 ?_
  refine y_iadd (v := 2) rfl (by decide) ?_
  refine y_iald (v := xs 2) (N := 7) 2 rfl (O2 0 (by decide)).1 (jinb_of (by decide)) (by decide) ((O2 0 (by decide)).2 2) ?_
  refine x_inv (N := m_X12_waits) (As := [.int (xs 1), .int (xs 2)]) (b := 125) (st := [.int (sp_waits (xs 1) (xs 2))]) (d' := 100) (mc := 0) (ms := 0) (host := "") 12 rfl t_X12_waits ⟨Or.inl q_13_74, i_X12_waits.1, i_X12_waits.2⟩ ⟨by decide, rfl⟩ (congrArg Prod.fst (F2.1 125 (12, 92) rfl rfl)) rfl (by decide) rfl rfl ⟨by decide, by decide⟩ (pm_waits (xs 1) (xs 2) F2 O2 ?_)
  intro h3 O3
  show jX m_L_law 1300 600000 7302249 843 [(3, .int 0), (2, .ref 125), (1, .ref 31), (0, .ref 0)] [.int (sp_waits (xs 1) (xs 2)), .int (sp_waits (xs 1) (xs 2))] _ 143 360892 _
  refine x_iceq (tgt := 2887) rfl rfl (br_t rfl ?_)
  refine x_iinc (x := 0) (v := 7) (ls' := [(3, .int 7), (2, .ref 125), (1, .ref 31), (0, .ref 0)]) rfl rfl (by decide) rfl rfl ?_
  refine x_goto (tgt := 18) rfl rfl ?_
  refine x_iloadn (x := 7) rfl rfl ?_
  refine x_aloadn (x := 0) rfl rfl ?_
  refine y_alen (N := 7) (v := 7) rfl (O3 0 (by decide)).1 (by decide) (by decide) ?_
  refine x_bipush (v := 7) rfl kb_7 ?_
  refine y_isub (v := 0) rfl (by decide) ?_
  refine x_icgt (tgt := 2893) rfl rfl (br_t (by decide) ?_)
  refine x_iconst (v := 1) rfl ki_1 ?_
  refine x_zret rfl rfl (by first | decide | exact jp_01 _) ?_
  exact hQ _
set_option maxRecDepth 100000 in
set_option maxHeartbeats 40000000 in
theorem cs_soul {xs : Nat → Int32} {h : jH} {Q : Option Value → jH → Prop} (F : jFb 31 h) (O : jOl 7 xs h) (hQ : ∀ h', Q (some (.int 1)) h') : jX m_L_law 1300 600000 7302249 848 [(3, .int 0), (2, .ref 125), (1, .ref 31), (0, .ref 0)] [] h 143 360892 Q := by
  refine x_aloadn (x := 31) rfl rfl ?_
  refine x_aloadn (x := 0) rfl rfl ?_
  refine x_iloadn (x := 0) rfl rfl ?_
  refine x_iconst (v := 1) rfl ki_1 ?_
  refine y_iadd (v := 1) rfl (by decide) ?_
  refine y_iald (v := xs 1) (N := 7) 1 rfl (O 0 (by decide)).1 (jinb_of (by decide)) (by decide) ((O 0 (by decide)).2 1) ?_
  refine x_aloadn (x := 0) rfl rfl ?_
  refine x_iloadn (x := 0) rfl rfl ?_
  refine x_iconst (v := 2) rfl ki_2 ?_
  refine y_iadd (v := 2) rfl (by decide) ?_
  refine y_iald (v := xs 2) (N := 7) 2 rfl (O 0 (by decide)).1 (jinb_of (by decide)) (by decide) ((O 0 (by decide)).2 2) ?_
  refine x_inv (N := m_X11_soul) (As := [.int (xs 1), .int (xs 2)]) (b := 31) (st := []) (d' := 100) (mc := 0) (ms := 0) (host := "") 11 rfl t_X11_soul ⟨Or.inl q_13_75, i_X11_soul.1, i_X11_soul.2⟩ ⟨by decide, rfl⟩ (congrArg Prod.fst (F.1 31 (11, 13) rfl rfl)) rfl (by decide) rfl rfl ⟨by decide, by decide⟩ (px_soul (xs 1) (xs 2) F O ?_)
  intro h2 F2 O2
  show jX m_L_law 1300 600000 7302249 862 [(3, .int 0), (2, .ref 125), (1, .ref 31), (0, .ref 0)] [.int (sp_soul (xs 1) (xs 2))] _ 143 360892 _
  refine x_aloadn (x := 125) rfl rfl ?_
  refine x_aloadn (x := 0) rfl rfl ?_
  refine x_iloadn (x := 0) rfl rfl ?_
  refine x_iconst (v := 1) rfl ki_1 ?_
  refine y_iadd (v := 1) rfl (by decide) ?_
  refine y_iald (v := xs 1) (N := 7) 1 rfl (O2 0 (by decide)).1 (jinb_of (by decide)) (by decide) ((O2 0 (by decide)).2 1) ?_
  refine x_aloadn (x := 0) rfl rfl ?_
  refine x_iloadn (x := 0) rfl rfl ?_
  refine x_iconst (v := 2) rfl ki_2 ?_
  refine y_iadd (v := 2) rfl (by decide) ?_
  refine y_iald (v := xs 2) (N := 7) 2 rfl (O2 0 (by decide)).1 (jinb_of (by decide)) (by decide) ((O2 0 (by decide)).2 2) ?_
  refine x_inv (N := m_X12_soul) (As := [.int (xs 1), .int (xs 2)]) (b := 125) (st := [.int (sp_soul (xs 1) (xs 2))]) (d' := 100) (mc := 0) (ms := 0) (host := "") 12 rfl t_X12_soul ⟨Or.inl q_13_78, i_X12_soul.1, i_X12_soul.2⟩ ⟨by decide, rfl⟩ (congrArg Prod.fst (F2.1 125 (12, 92) rfl rfl)) rfl (by decide) rfl rfl ⟨by decide, by decide⟩ (pm_soul (xs 1) (xs 2) F2 O2 ?_)
  intro h3 O3
  show jX m_L_law 1300 600000 7302249 876 [(3, .int 0), (2, .ref 125), (1, .ref 31), (0, .ref 0)] [.int (sp_soul (xs 1) (xs 2)), .int (sp_soul (xs 1) (xs 2))] _ 143 360892 _
  refine x_iceq (tgt := 2887) rfl rfl (br_t rfl ?_)
  refine x_iinc (x := 0) (v := 7) (ls' := [(3, .int 7), (2, .ref 125), (1, .ref 31), (0, .ref 0)]) rfl rfl (by decide) rfl rfl ?_
  refine x_goto (tgt := 18) rfl rfl ?_
  refine x_iloadn (x := 7) rfl rfl ?_
  refine x_aloadn (x := 0) rfl rfl ?_
  refine y_alen (N := 7) (v := 7) rfl (O3 0 (by decide)).1 (by decide) (by decide) ?_
  refine x_bipush (v := 7) rfl kb_7 ?_
  refine y_isub (v := 0) rfl (by decide) ?_
  refine x_icgt (tgt := 2893) rfl rfl (br_t (by decide) ?_)
  refine x_iconst (v := 1) rfl ki_1 ?_
  refine x_zret rfl rfl (by first | decide | exact jp_01 _) ?_
  exact hQ _
set_option maxRecDepth 100000 in
set_option maxHeartbeats 40000000 in
theorem cs_mentions {xs : Nat → Int32} {h : jH} {Q : Option Value → jH → Prop} (F : jFb 31 h) (O : jOl 7 xs h) (hQ : ∀ h', Q (some (.int 1)) h') : jX m_L_law 1300 600000 7302249 881 [(3, .int 0), (2, .ref 125), (1, .ref 31), (0, .ref 0)] [] h 143 360892 Q := by
  refine x_aloadn (x := 31) rfl rfl ?_
  refine x_aloadn (x := 0) rfl rfl ?_
  refine x_iloadn (x := 0) rfl rfl ?_
  refine x_iconst (v := 1) rfl ki_1 ?_
  refine y_iadd (v := 1) rfl (by decide) ?_
  refine y_iald (v := xs 1) (N := 7) 1 rfl (O 0 (by decide)).1 (jinb_of (by decide)) (by decide) ((O 0 (by decide)).2 1) ?_
  refine x_aloadn (x := 0) rfl rfl ?_
  refine x_iloadn (x := 0) rfl rfl ?_
  refine x_iconst (v := 2) rfl ki_2 ?_
  refine y_iadd (v := 2) rfl (by decide) ?_
  refine y_iald (v := xs 2) (N := 7) 2 rfl (O 0 (by decide)).1 (jinb_of (by decide)) (by decide) ((O 0 (by decide)).2 2) ?_
  refine x_aloadn (x := 0) rfl rfl ?_
  refine x_iloadn (x := 0) rfl rfl ?_
  refine x_iconst (v := 3) rfl ki_3 ?_
  refine y_iadd (v := 3) rfl (by decide) ?_
  refine y_iald (v := xs 3) (N := 7) 3 rfl (O 0 (by decide)).1 (jinb_of (by decide)) (by decide) ((O 0 (by decide)).2 3) ?_
  refine x_aloadn (x := 0) rfl rfl ?_
  refine x_iloadn (x := 0) rfl rfl ?_
  refine x_iconst (v := 4) rfl ki_4 ?_
  refine y_iadd (v := 4) rfl (by decide) ?_
  refine y_iald (v := xs 4) (N := 7) 4 rfl (O 0 (by decide)).1 (jinb_of (by decide)) (by decide) ((O 0 (by decide)).2 4) ?_
  refine x_inv (N := m_X11_mentions) (As := [.int (xs 1), .int (xs 2), .int (xs 3), .int (xs 4)]) (b := 31) (st := []) (d' := 100) (mc := 0) (ms := 0) (host := "") 11 rfl t_X11_mentions ⟨Or.inl q_13_79, i_X11_mentions.1, i_X11_mentions.2⟩ ⟨by decide, rfl⟩ (congrArg Prod.fst (F.1 31 (11, 13) rfl rfl)) rfl (by decide) rfl rfl ⟨by decide, by decide⟩ (px_mentions (xs 1) (xs 2) (xs 3) (xs 4) F O ?_)
  intro h2 F2 O2
  show jX m_L_law 1300 600000 7302249 905 [(3, .int 0), (2, .ref 125), (1, .ref 31), (0, .ref 0)] [.int (sp_mentions (xs 1) (xs 2) (xs 3) (xs 4))] _ 143 360892 _
  refine x_aloadn (x := 125) rfl rfl ?_
  refine x_aloadn (x := 0) rfl rfl ?_
  refine x_iloadn (x := 0) rfl rfl ?_
  refine x_iconst (v := 1) rfl ki_1 ?_
  refine y_iadd (v := 1) rfl (by decide) ?_
  refine y_iald (v := xs 1) (N := 7) 1 rfl (O2 0 (by decide)).1 (jinb_of (by decide)) (by decide) ((O2 0 (by decide)).2 1) ?_
  refine x_aloadn (x := 0) rfl rfl ?_
  refine x_iloadn (x := 0) rfl rfl ?_
  refine x_iconst (v := 2) rfl ki_2 ?_
  refine y_iadd (v := 2) rfl (by decide) ?_
  refine y_iald (v := xs 2) (N := 7) 2 rfl (O2 0 (by decide)).1 (jinb_of (by decide)) (by decide) ((O2 0 (by decide)).2 2) ?_
  refine x_aloadn (x := 0) rfl rfl ?_
  refine x_iloadn (x := 0) rfl rfl ?_
  refine x_iconst (v := 3) rfl ki_3 ?_
  refine y_iadd (v := 3) rfl (by decide) ?_
  refine y_iald (v := xs 3) (N := 7) 3 rfl (O2 0 (by decide)).1 (jinb_of (by decide)) (by decide) ((O2 0 (by decide)).2 3) ?_
  refine x_aloadn (x := 0) rfl rfl ?_
  refine x_iloadn (x := 0) rfl rfl ?_
  refine x_iconst (v := 4) rfl ki_4 ?_
  refine y_iadd (v := 4) rfl (by decide) ?_
  refine y_iald (v := xs 4) (N := 7) 4 rfl (O2 0 (by decide)).1 (jinb_of (by decide)) (by decide) ((O2 0 (by decide)).2 4) ?_
  refine x_inv (N := m_X12_mentions) (As := [.int (xs 1), .int (xs 2), .int (xs 3), .int (xs 4)]) (b := 125) (st := [.int (sp_mentions (xs 1) (xs 2) (xs 3) (xs 4))]) (d' := 100) (mc := 0) (ms := 0) (host := "") 12 rfl t_X12_mentions ⟨Or.inl q_13_82, i_X12_mentions.1, i_X12_mentions.2⟩ ⟨by decide, rfl⟩ (congrArg Prod.fst (F2.1 125 (12, 92) rfl rfl)) rfl (by decide) rfl rfl ⟨by decide, by decide⟩ (pm_mentions (xs 1) (xs 2) (xs 3) (xs 4) F2 O2 ?_)
  intro h3 O3
  show jX m_L_law 1300 600000 7302249 929 [(3, .int 0), (2, .ref 125), (1, .ref 31), (0, .ref 0)] [.int (sp_mentions (xs 1) (xs 2) (xs 3) (xs 4)), .int (sp_mentions (xs 1) (xs 2) (xs 3) (xs 4))] _ 143 360892 _
  refine x_iceq (tgt := 2887) rfl rfl (br_t rfl ?_)
  refine x_iinc (x := 0) (v := 7) (ls' := [(3, .int 7), (2, .ref 125), (1, .ref 31), (0, .ref 0)]) rfl rfl (by decide) rfl rfl ?_
  refine x_goto (tgt := 18) rfl rfl ?_
  refine x_iloadn (x := 7) rfl rfl ?_
  refine x_aloadn (x := 0) rfl rfl ?_
  refine y_alen (N := 7) (v := 7) rfl (O3 0 (by decide)).1 (by decide) (by decide) ?_
  refine x_bipush (v := 7) rfl kb_7 ?_
  refine y_isub (v := 0) rfl (by decide) ?_
  refine x_icgt (tgt := 2893) rfl rfl (br_t (by decide) ?_)
  refine x_iconst (v := 1) rfl ki_1 ?_
  refine x_zret rfl rfl (by first | decide | exact jp_01 _) ?_
  exact hQ _
set_option maxRecDepth 100000 in
set_option maxHeartbeats 40000000 in
theorem cs_kin {xs : Nat → Int32} {h : jH} {Q : Option Value → jH → Prop} (F : jFb 31 h) (O : jOl 7 xs h) (hQ : ∀ h', Q (some (.int 1)) h') : jX m_L_law 1300 600000 7302249 934 [(3, .int 0), (2, .ref 125), (1, .ref 31), (0, .ref 0)] [] h 143 360892 Q := by
  refine x_aloadn (x := 31) rfl rfl ?_
  refine x_aloadn (x := 0) rfl rfl ?_
  refine x_iloadn (x := 0) rfl rfl ?_
  refine x_iconst (v := 1) rfl ki_1 ?_
  refine y_iadd (v := 1) rfl (by decide) ?_
  refine y_iald (v := xs 1) (N := 7) 1 rfl (O 0 (by decide)).1 (jinb_of (by decide)) (by decide) ((O 0 (by decide)).2 1) ?_
  refine x_aloadn (x := 0) rfl rfl ?_
  refine x_iloadn (x := 0) rfl rfl ?_
  refine x_iconst (v := 2) rfl ki_2 ?_
  refine y_iadd (v := 2) rfl (by decide) ?_
  refine y_iald (v := xs 2) (N := 7) 2 rfl (O 0 (by decide)).1 (jinb_of (by decide)) (by decide) ((O 0 (by decide)).2 2) ?_
  refine x_aloadn (x := 0) rfl rfl ?_
  refine x_iloadn (x := 0) rfl rfl ?_
  refine x_iconst (v := 3) rfl ki_3 ?_
  refine y_iadd (v := 3) rfl (by decide) ?_
  refine y_iald (v := xs 3) (N := 7) 3 rfl (O 0 (by decide)).1 (jinb_of (by decide)) (by decide) ((O 0 (by decide)).2 3) ?_
  refine x_aloadn (x := 0) rfl rfl ?_
  refine x_iloadn (x := 0) rfl rfl ?_
  refine x_iconst (v := 4) rfl ki_4 ?_
  refine y_iadd (v := 4) rfl (by decide) ?_
  refine y_iald (v := xs 4) (N := 7) 4 rfl (O 0 (by decide)).1 (jinb_of (by decide)) (by decide) ((O 0 (by decide)).2 4) ?_
  refine x_inv (N := m_X11_kin) (As := [.int (xs 1), .int (xs 2), .int (xs 3), .int (xs 4)]) (b := 31) (st := []) (d' := 100) (mc := 0) (ms := 0) (host := "") 11 rfl t_X11_kin ⟨Or.inl q_13_83, i_X11_kin.1, i_X11_kin.2⟩ ⟨by decide, rfl⟩ (congrArg Prod.fst (F.1 31 (11, 13) rfl rfl)) rfl (by decide) rfl rfl ⟨by decide, by decide⟩ (px_kin (xs 1) (xs 2) (xs 3) (xs 4) F O ?_)
  intro h2 F2 O2
  show jX m_L_law 1300 600000 7302249 958 [(3, .int 0), (2, .ref 125), (1, .ref 31), (0, .ref 0)] [.int (sp_kin (xs 1) (xs 2) (xs 3) (xs 4))] _ 143 360892 _
  refine x_aloadn (x := 125) rfl rfl ?_
  refine x_aloadn (x := 0) rfl rfl ?_
  refine x_iloadn (x := 0) rfl rfl ?_
  refine x_iconst (v := 1) rfl ki_1 ?_
  refine y_iadd (v := 1) rfl (by decide) ?_
  refine y_iald (v := xs 1) (N := 7) 1 rfl (O2 0 (by decide)).1 (jinb_of (by decide)) (by decide) ((O2 0 (by decide)).2 1) ?_
  refine x_aloadn (x := 0) rfl rfl ?_
  refine x_iloadn (x := 0) rfl rfl ?_
  refine x_iconst (v := 2) rfl ki_2 ?_
  refine y_iadd (v := 2) rfl (by decide) ?_
  refine y_iald (v := xs 2) (N := 7) 2 rfl (O2 0 (by decide)).1 (jinb_of (by decide)) (by decide) ((O2 0 (by decide)).2 2) ?_
  refine x_aloadn (x := 0) rfl rfl ?_
  refine x_iloadn (x := 0) rfl rfl ?_
  refine x_iconst (v := 3) rfl ki_3 ?_
  refine y_iadd (v := 3) rfl (by decide) ?_
  refine y_iald (v := xs 3) (N := 7) 3 rfl (O2 0 (by decide)).1 (jinb_of (by decide)) (by decide) ((O2 0 (by decide)).2 3) ?_
  refine x_aloadn (x := 0) rfl rfl ?_
  refine x_iloadn (x := 0) rfl rfl ?_
  refine x_iconst (v := 4) rfl ki_4 ?_
  refine y_iadd (v := 4) rfl (by decide) ?_
  refine y_iald (v := xs 4) (N := 7) 4 rfl (O2 0 (by decide)).1 (jinb_of (by decide)) (by decide) ((O2 0 (by decide)).2 4) ?_
  refine x_inv (N := m_X12_kin) (As := [.int (xs 1), .int (xs 2), .int (xs 3), .int (xs 4)]) (b := 125) (st := [.int (sp_kin (xs 1) (xs 2) (xs 3) (xs 4))]) (d' := 100) (mc := 0) (ms := 0) (host := "") 12 rfl t_X12_kin ⟨Or.inl q_13_86, i_X12_kin.1, i_X12_kin.2⟩ ⟨by decide, rfl⟩ (congrArg Prod.fst (F2.1 125 (12, 92) rfl rfl)) rfl (by decide) rfl rfl ⟨by decide, by decide⟩ (pm_kin (xs 1) (xs 2) (xs 3) (xs 4) F2 O2 ?_)
  intro h3 O3
  show jX m_L_law 1300 600000 7302249 982 [(3, .int 0), (2, .ref 125), (1, .ref 31), (0, .ref 0)] [.int (sp_kin (xs 1) (xs 2) (xs 3) (xs 4)), .int (sp_kin (xs 1) (xs 2) (xs 3) (xs 4))] _ 143 360892 _
  refine x_iceq (tgt := 2887) rfl rfl (br_t rfl ?_)
  refine x_iinc (x := 0) (v := 7) (ls' := [(3, .int 7), (2, .ref 125), (1, .ref 31), (0, .ref 0)]) rfl rfl (by decide) rfl rfl ?_
  refine x_goto (tgt := 18) rfl rfl ?_
  refine x_iloadn (x := 7) rfl rfl ?_
  refine x_aloadn (x := 0) rfl rfl ?_
  refine y_alen (N := 7) (v := 7) rfl (O3 0 (by decide)).1 (by decide) (by decide) ?_
  refine x_bipush (v := 7) rfl kb_7 ?_
  refine y_isub (v := 0) rfl (by decide) ?_
  refine x_icgt (tgt := 2893) rfl rfl (br_t (by decide) ?_)
  refine x_iconst (v := 1) rfl ki_1 ?_
  refine x_zret rfl rfl (by first | decide | exact jp_01 _) ?_
  exact hQ _
set_option maxRecDepth 100000 in
set_option maxHeartbeats 40000000 in
theorem cs_span {xs : Nat → Int32} {h : jH} {Q : Option Value → jH → Prop} (F : jFb 31 h) (O : jOl 7 xs h) (hQ : ∀ h', Q (some (.int 1)) h') : jX m_L_law 1300 600000 7302249 987 [(3, .int 0), (2, .ref 125), (1, .ref 31), (0, .ref 0)] [] h 143 360892 Q := by
  refine x_aloadn (x := 31) rfl rfl ?_
  refine x_aloadn (x := 0) rfl rfl ?_
  refine x_iloadn (x := 0) rfl rfl ?_
  refine x_iconst (v := 1) rfl ki_1 ?_
  refine y_iadd (v := 1) rfl (by decide) ?_
  refine y_iald (v := xs 1) (N := 7) 1 rfl (O 0 (by decide)).1 (jinb_of (by decide)) (by decide) ((O 0 (by decide)).2 1) ?_
  refine x_aloadn (x := 0) rfl rfl ?_
  refine x_iloadn (x := 0) rfl rfl ?_
  refine x_iconst (v := 2) rfl ki_2 ?_
  refine y_iadd (v := 2) rfl (by decide) ?_
  refine y_iald (v := xs 2) (N := 7) 2 rfl (O 0 (by decide)).1 (jinb_of (by decide)) (by decide) ((O 0 (by decide)).2 2) ?_
  refine x_aloadn (x := 0) rfl rfl ?_
  refine x_iloadn (x := 0) rfl rfl ?_
  refine x_iconst (v := 3) rfl ki_3 ?_
  refine y_iadd (v := 3) rfl (by decide) ?_
  refine y_iald (v := xs 3) (N := 7) 3 rfl (O 0 (by decide)).1 (jinb_of (by decide)) (by decide) ((O 0 (by decide)).2 3) ?_
  refine x_inv (N := m_X11_span) (As := [.int (xs 1), .int (xs 2), .int (xs 3)]) (b := 31) (st := []) (d' := 100) (mc := 0) (ms := 0) (host := "") 11 rfl t_X11_span ⟨Or.inl q_13_87, i_X11_span.1, i_X11_span.2⟩ ⟨by decide, rfl⟩ (congrArg Prod.fst (F.1 31 (11, 13) rfl rfl)) rfl (by decide) rfl rfl ⟨by decide, by decide⟩ (px_span (xs 1) (xs 2) (xs 3) F O ?_)
  intro h2 F2 O2
  show jX m_L_law 1300 600000 7302249 1006 [(3, .int 0), (2, .ref 125), (1, .ref 31), (0, .ref 0)] [.int (sp_span (xs 1) (xs 2) (xs 3))] _ 143 360892 _
  refine x_aloadn (x := 125) rfl rfl ?_
  refine x_aloadn (x := 0) rfl rfl ?_
  refine x_iloadn (x := 0) rfl rfl ?_
  refine x_iconst (v := 1) rfl ki_1 ?_
  refine y_iadd (v := 1) rfl (by decide) ?_
  refine y_iald (v := xs 1) (N := 7) 1 rfl (O2 0 (by decide)).1 (jinb_of (by decide)) (by decide) ((O2 0 (by decide)).2 1) ?_
  refine x_aloadn (x := 0) rfl rfl ?_
  refine x_iloadn (x := 0) rfl rfl ?_
  refine x_iconst (v := 2) rfl ki_2 ?_
  refine y_iadd (v := 2) rfl (by decide) ?_
  refine y_iald (v := xs 2) (N := 7) 2 rfl (O2 0 (by decide)).1 (jinb_of (by decide)) (by decide) ((O2 0 (by decide)).2 2) ?_
  refine x_aloadn (x := 0) rfl rfl ?_
  refine x_iloadn (x := 0) rfl rfl ?_
  refine x_iconst (v := 3) rfl ki_3 ?_
  refine y_iadd (v := 3) rfl (by decide) ?_
  refine y_iald (v := xs 3) (N := 7) 3 rfl (O2 0 (by decide)).1 (jinb_of (by decide)) (by decide) ((O2 0 (by decide)).2 3) ?_
  refine x_inv (N := m_X12_span) (As := [.int (xs 1), .int (xs 2), .int (xs 3)]) (b := 125) (st := [.int (sp_span (xs 1) (xs 2) (xs 3))]) (d' := 100) (mc := 0) (ms := 0) (host := "") 12 rfl t_X12_span ⟨Or.inl q_13_90, i_X12_span.1, i_X12_span.2⟩ ⟨by decide, rfl⟩ (congrArg Prod.fst (F2.1 125 (12, 92) rfl rfl)) rfl (by decide) rfl rfl ⟨by decide, by decide⟩ (pm_span (xs 1) (xs 2) (xs 3) F2 O2 ?_)
  intro h3 O3
  show jX m_L_law 1300 600000 7302249 1025 [(3, .int 0), (2, .ref 125), (1, .ref 31), (0, .ref 0)] [.int (sp_span (xs 1) (xs 2) (xs 3)), .int (sp_span (xs 1) (xs 2) (xs 3))] _ 143 360892 _
  refine x_iceq (tgt := 2887) rfl rfl (br_t rfl ?_)
  refine x_iinc (x := 0) (v := 7) (ls' := [(3, .int 7), (2, .ref 125), (1, .ref 31), (0, .ref 0)]) rfl rfl (by decide) rfl rfl ?_
  refine x_goto (tgt := 18) rfl rfl ?_
  refine x_iloadn (x := 7) rfl rfl ?_
  refine x_aloadn (x := 0) rfl rfl ?_
  refine y_alen (N := 7) (v := 7) rfl (O3 0 (by decide)).1 (by decide) (by decide) ?_
  refine x_bipush (v := 7) rfl kb_7 ?_
  refine y_isub (v := 0) rfl (by decide) ?_
  refine x_icgt (tgt := 2893) rfl rfl (br_t (by decide) ?_)
  refine x_iconst (v := 1) rfl ki_1 ?_
  refine x_zret rfl rfl (by first | decide | exact jp_01 _) ?_
  exact hQ _
set_option maxRecDepth 100000 in
set_option maxHeartbeats 40000000 in
theorem cs_wish {xs : Nat → Int32} {h : jH} {Q : Option Value → jH → Prop} (F : jFb 31 h) (O : jOl 7 xs h) (hQ : ∀ h', Q (some (.int 1)) h') : jX m_L_law 1300 600000 7302249 1030 [(3, .int 0), (2, .ref 125), (1, .ref 31), (0, .ref 0)] [] h 143 360892 Q := by
  refine x_aloadn (x := 31) rfl rfl ?_
  refine x_aloadn (x := 0) rfl rfl ?_
  refine x_iloadn (x := 0) rfl rfl ?_
  refine x_iconst (v := 1) rfl ki_1 ?_
  refine y_iadd (v := 1) rfl (by decide) ?_
  refine y_iald (v := xs 1) (N := 7) 1 rfl (O 0 (by decide)).1 (jinb_of (by decide)) (by decide) ((O 0 (by decide)).2 1) ?_
  refine x_inv (N := m_X11_wish) (As := [.int (xs 1)]) (b := 31) (st := []) (d' := 100) (mc := 0) (ms := 0) (host := "") 11 rfl t_X11_wish ⟨Or.inl q_13_91, i_X11_wish.1, i_X11_wish.2⟩ ⟨by decide, rfl⟩ (congrArg Prod.fst (F.1 31 (11, 13) rfl rfl)) rfl (by decide) rfl rfl ⟨by decide, by decide⟩ (px_wish (xs 1) F O ?_)
  intro h2 F2 O2
  show jX m_L_law 1300 600000 7302249 1039 [(3, .int 0), (2, .ref 125), (1, .ref 31), (0, .ref 0)] [.int (sp_wish (xs 1))] _ 143 360892 _
  refine x_aloadn (x := 125) rfl rfl ?_
  refine x_aloadn (x := 0) rfl rfl ?_
  refine x_iloadn (x := 0) rfl rfl ?_
  refine x_iconst (v := 1) rfl ki_1 ?_
  refine y_iadd (v := 1) rfl (by decide) ?_
  refine y_iald (v := xs 1) (N := 7) 1 rfl (O2 0 (by decide)).1 (jinb_of (by decide)) (by decide) ((O2 0 (by decide)).2 1) ?_
  refine x_inv (N := m_X12_wish) (As := [.int (xs 1)]) (b := 125) (st := [.int (sp_wish (xs 1))]) (d' := 100) (mc := 0) (ms := 0) (host := "") 12 rfl t_X12_wish ⟨Or.inl q_13_94, i_X12_wish.1, i_X12_wish.2⟩ ⟨by decide, rfl⟩ (congrArg Prod.fst (F2.1 125 (12, 92) rfl rfl)) rfl (by decide) rfl rfl ⟨by decide, by decide⟩ (pm_wish (xs 1) F2 O2 ?_)
  intro h3 O3
  show jX m_L_law 1300 600000 7302249 1048 [(3, .int 0), (2, .ref 125), (1, .ref 31), (0, .ref 0)] [.int (sp_wish (xs 1)), .int (sp_wish (xs 1))] _ 143 360892 _
  refine x_iceq (tgt := 2887) rfl rfl (br_t rfl ?_)
  refine x_iinc (x := 0) (v := 7) (ls' := [(3, .int 7), (2, .ref 125), (1, .ref 31), (0, .ref 0)]) rfl rfl (by decide) rfl rfl ?_
  refine x_goto (tgt := 18) rfl rfl ?_
  refine x_iloadn (x := 7) rfl rfl ?_
  refine x_aloadn (x := 0) rfl rfl ?_
  refine y_alen (N := 7) (v := 7) rfl (O3 0 (by decide)).1 (by decide) (by decide) ?_
  refine x_bipush (v := 7) rfl kb_7 ?_
  refine y_isub (v := 0) rfl (by decide) ?_
  refine x_icgt (tgt := 2893) rfl rfl (br_t (by decide) ?_)
  refine x_iconst (v := 1) rfl ki_1 ?_
  refine x_zret rfl rfl (by first | decide | exact jp_01 _) ?_
  exact hQ _
set_option maxRecDepth 100000 in
set_option maxHeartbeats 40000000 in
theorem cs_clear {xs : Nat → Int32} {h : jH} {Q : Option Value → jH → Prop} (F : jFb 31 h) (O : jOl 7 xs h) (hQ : ∀ h', Q (some (.int 1)) h') : jX m_L_law 1300 600000 7302249 1053 [(3, .int 0), (2, .ref 125), (1, .ref 31), (0, .ref 0)] [] h 143 360892 Q := by
  refine x_aloadn (x := 31) rfl rfl ?_
  refine x_inv (N := m_X11_clear) (As := []) (b := 31) (st := []) (d' := 100) (mc := 0) (ms := 0) (host := "") 11 rfl t_X11_clear ⟨Or.inl q_13_95, i_X11_clear.1, i_X11_clear.2⟩ ⟨by decide, rfl⟩ (congrArg Prod.fst (F.1 31 (11, 13) rfl rfl)) rfl (by decide) rfl rfl ⟨by decide, by decide⟩ (px_clear  F O ?_)
  intro h2 F2 O2
  show jX m_L_law 1300 600000 7302249 1057 [(3, .int 0), (2, .ref 125), (1, .ref 31), (0, .ref 0)] [.int sp_clear] _ 143 360892 _
  refine x_aloadn (x := 125) rfl rfl ?_
  refine x_inv (N := m_X12_clear) (As := []) (b := 125) (st := [.int sp_clear]) (d' := 100) (mc := 0) (ms := 0) (host := "") 12 rfl t_X12_clear ⟨Or.inl q_13_98, i_X12_clear.1, i_X12_clear.2⟩ ⟨by decide, rfl⟩ (congrArg Prod.fst (F2.1 125 (12, 92) rfl rfl)) rfl (by decide) rfl rfl ⟨by decide, by decide⟩ (pm_clear  F2 O2 ?_)
  intro h3 O3
  show jX m_L_law 1300 600000 7302249 1061 [(3, .int 0), (2, .ref 125), (1, .ref 31), (0, .ref 0)] [.int sp_clear, .int sp_clear] _ 143 360892 _
  refine x_iceq (tgt := 2887) rfl rfl (br_t rfl ?_)
  refine x_iinc (x := 0) (v := 7) (ls' := [(3, .int 7), (2, .ref 125), (1, .ref 31), (0, .ref 0)]) rfl rfl (by decide) rfl rfl ?_
  refine x_goto (tgt := 18) rfl rfl ?_
  refine x_iloadn (x := 7) rfl rfl ?_
  refine x_aloadn (x := 0) rfl rfl ?_
  refine y_alen (N := 7) (v := 7) rfl (O3 0 (by decide)).1 (by decide) (by decide) ?_
  refine x_bipush (v := 7) rfl kb_7 ?_
  refine y_isub (v := 0) rfl (by decide) ?_
  refine x_icgt (tgt := 2893) rfl rfl (br_t (by decide) ?_)
  refine x_iconst (v := 1) rfl ki_1 ?_
  refine x_zret rfl rfl (by first | decide | exact jp_01 _) ?_
  exact hQ _
set_option maxRecDepth 100000 in
set_option maxHeartbeats 40000000 in
theorem cs_best {xs : Nat → Int32} {h : jH} {Q : Option Value → jH → Prop} (F : jFb 31 h) (O : jOl 7 xs h) (hQ : ∀ h', Q (some (.int 1)) h') : jX m_L_law 1300 600000 7302249 1066 [(3, .int 0), (2, .ref 125), (1, .ref 31), (0, .ref 0)] [] h 143 360892 Q := by
  refine x_aloadn (x := 31) rfl rfl ?_
  refine x_aloadn (x := 0) rfl rfl ?_
  refine x_iloadn (x := 0) rfl rfl ?_
  refine x_iconst (v := 1) rfl ki_1 ?_
  refine y_iadd (v := 1) rfl (by decide) ?_
  refine y_iald (v := xs 1) (N := 7) 1 rfl (O 0 (by decide)).1 (jinb_of (by decide)) (by decide) ((O 0 (by decide)).2 1) ?_
  refine x_aloadn (x := 0) rfl rfl ?_
  refine x_iloadn (x := 0) rfl rfl ?_
  refine x_iconst (v := 2) rfl ki_2 ?_
  refine y_iadd (v := 2) rfl (by decide) ?_
  refine y_iald (v := xs 2) (N := 7) 2 rfl (O 0 (by decide)).1 (jinb_of (by decide)) (by decide) ((O 0 (by decide)).2 2) ?_
  refine x_inv (N := m_X11_best) (As := [.int (xs 1), .int (xs 2)]) (b := 31) (st := []) (d' := 100) (mc := 0) (ms := 0) (host := "") 11 rfl t_X11_best ⟨Or.inl q_13_99, i_X11_best.1, i_X11_best.2⟩ ⟨by decide, rfl⟩ (congrArg Prod.fst (F.1 31 (11, 13) rfl rfl)) rfl (by decide) rfl rfl ⟨by decide, by decide⟩ (px_best (xs 1) (xs 2) F O ?_)
  intro h2 F2 O2
  show jX m_L_law 1300 600000 7302249 1080 [(3, .int 0), (2, .ref 125), (1, .ref 31), (0, .ref 0)] [.int (sp_best (xs 1) (xs 2))] _ 143 360892 _
  refine x_aloadn (x := 125) rfl rfl ?_
  refine x_aloadn (x := 0) rfl rfl ?_
  refine x_iloadn (x := 0) rfl rfl ?_
  refine x_iconst (v := 1) rfl ki_1 ?_
  refine y_iadd (v := 1) rfl (by decide) ?_
  refine y_iald (v := xs 1) (N := 7) 1 rfl (O2 0 (by decide)).1 (jinb_of (by decide)) (by decide) ((O2 0 (by decide)).2 1) ?_
  refine x_aloadn (x := 0) rfl rfl ?_
  refine x_iloadn (x := 0) rfl rfl ?_
  refine x_iconst (v := 2) rfl ki_2 ?_
  refine y_iadd (v := 2) rfl (by decide) ?_
  refine y_iald (v := xs 2) (N := 7) 2 rfl (O2 0 (by decide)).1 (jinb_of (by decide)) (by decide) ((O2 0 (by decide)).2 2) ?_
  refine x_inv (N := m_X12_best) (As := [.int (xs 1), .int (xs 2)]) (b := 125) (st := [.int (sp_best (xs 1) (xs 2))]) (d' := 100) (mc := 0) (ms := 0) (host := "") 12 rfl t_X12_best ⟨Or.inl q_13_102, i_X12_best.1, i_X12_best.2⟩ ⟨by decide, rfl⟩ (congrArg Prod.fst (F2.1 125 (12, 92) rfl rfl)) rfl (by decide) rfl rfl ⟨by decide, by decide⟩ (pm_best (xs 1) (xs 2) F2 O2 ?_)
  intro h3 O3
  show jX m_L_law 1300 600000 7302249 1094 [(3, .int 0), (2, .ref 125), (1, .ref 31), (0, .ref 0)] [.int (sp_best (xs 1) (xs 2)), .int (sp_best (xs 1) (xs 2))] _ 143 360892 _
  refine x_iceq (tgt := 2887) rfl rfl (br_t rfl ?_)
  refine x_iinc (x := 0) (v := 7) (ls' := [(3, .int 7), (2, .ref 125), (1, .ref 31), (0, .ref 0)]) rfl rfl (by decide) rfl rfl ?_
  refine x_goto (tgt := 18) rfl rfl ?_
  refine x_iloadn (x := 7) rfl rfl ?_
  refine x_aloadn (x := 0) rfl rfl ?_
  refine y_alen (N := 7) (v := 7) rfl (O3 0 (by decide)).1 (by decide) (by decide) ?_
  refine x_bipush (v := 7) rfl kb_7 ?_
  refine y_isub (v := 0) rfl (by decide) ?_
  refine x_icgt (tgt := 2893) rfl rfl (br_t (by decide) ?_)
  refine x_iconst (v := 1) rfl ki_1 ?_
  refine x_zret rfl rfl (by first | decide | exact jp_01 _) ?_
  exact hQ _
set_option maxRecDepth 100000 in
set_option maxHeartbeats 40000000 in
theorem cs_group {xs : Nat → Int32} {h : jH} {Q : Option Value → jH → Prop} (F : jFb 31 h) (O : jOl 7 xs h) (hQ : ∀ h', Q (some (.int 1)) h') : jX m_L_law 1300 600000 7302249 1099 [(3, .int 0), (2, .ref 125), (1, .ref 31), (0, .ref 0)] [] h 143 360892 Q := by
  refine x_aloadn (x := 31) rfl rfl ?_
  refine x_aloadn (x := 0) rfl rfl ?_
  refine x_iloadn (x := 0) rfl rfl ?_
  refine x_iconst (v := 1) rfl ki_1 ?_
  refine y_iadd (v := 1) rfl (by decide) ?_
  refine y_iald (v := xs 1) (N := 7) 1 rfl (O 0 (by decide)).1 (jinb_of (by decide)) (by decide) ((O 0 (by decide)).2 1) ?_
  refine x_inv (N := m_X11_group) (As := [.int (xs 1)]) (b := 31) (st := []) (d' := 100) (mc := 0) (ms := 0) (host := "") 11 rfl t_X11_group ⟨Or.inl q_13_103, i_X11_group.1, i_X11_group.2⟩ ⟨by decide, rfl⟩ (congrArg Prod.fst (F.1 31 (11, 13) rfl rfl)) rfl (by decide) rfl rfl ⟨by decide, by decide⟩ (px_group (xs 1) F O ?_)
  intro h2 F2 O2
  show jX m_L_law 1300 600000 7302249 1108 [(3, .int 0), (2, .ref 125), (1, .ref 31), (0, .ref 0)] [.int (sp_group (xs 1))] _ 143 360892 _
  refine x_aloadn (x := 125) rfl rfl ?_
  refine x_aloadn (x := 0) rfl rfl ?_
  refine x_iloadn (x := 0) rfl rfl ?_
  refine x_iconst (v := 1) rfl ki_1 ?_
  refine y_iadd (v := 1) rfl (by decide) ?_
  refine y_iald (v := xs 1) (N := 7) 1 rfl (O2 0 (by decide)).1 (jinb_of (by decide)) (by decide) ((O2 0 (by decide)).2 1) ?_
  refine x_inv (N := m_X12_group) (As := [.int (xs 1)]) (b := 125) (st := [.int (sp_group (xs 1))]) (d' := 100) (mc := 0) (ms := 0) (host := "") 12 rfl t_X12_group ⟨Or.inl q_13_106, i_X12_group.1, i_X12_group.2⟩ ⟨by decide, rfl⟩ (congrArg Prod.fst (F2.1 125 (12, 92) rfl rfl)) rfl (by decide) rfl rfl ⟨by decide, by decide⟩ (pm_group (xs 1) F2 O2 ?_)
  intro h3 O3
  show jX m_L_law 1300 600000 7302249 1117 [(3, .int 0), (2, .ref 125), (1, .ref 31), (0, .ref 0)] [.int (sp_group (xs 1)), .int (sp_group (xs 1))] _ 143 360892 _
  refine x_iceq (tgt := 2887) rfl rfl (br_t rfl ?_)
  refine x_iinc (x := 0) (v := 7) (ls' := [(3, .int 7), (2, .ref 125), (1, .ref 31), (0, .ref 0)]) rfl rfl (by decide) rfl rfl ?_
  refine x_goto (tgt := 18) rfl rfl ?_
  refine x_iloadn (x := 7) rfl rfl ?_
  refine x_aloadn (x := 0) rfl rfl ?_
  refine y_alen (N := 7) (v := 7) rfl (O3 0 (by decide)).1 (by decide) (by decide) ?_
  refine x_bipush (v := 7) rfl kb_7 ?_
  refine y_isub (v := 0) rfl (by decide) ?_
  refine x_icgt (tgt := 2893) rfl rfl (br_t (by decide) ?_)
  refine x_iconst (v := 1) rfl ki_1 ?_
  refine x_zret rfl rfl (by first | decide | exact jp_01 _) ?_
  exact hQ _
set_option maxRecDepth 100000 in
set_option maxHeartbeats 40000000 in
theorem cs_join {xs : Nat → Int32} {h : jH} {Q : Option Value → jH → Prop} (F : jFb 31 h) (O : jOl 7 xs h) (hQ : ∀ h', Q (some (.int 1)) h') : jX m_L_law 1300 600000 7302249 1122 [(3, .int 0), (2, .ref 125), (1, .ref 31), (0, .ref 0)] [] h 143 360892 Q := by
  refine x_aloadn (x := 31) rfl rfl ?_
  refine x_aloadn (x := 0) rfl rfl ?_
  refine x_iloadn (x := 0) rfl rfl ?_
  refine x_iconst (v := 1) rfl ki_1 ?_
  refine y_iadd (v := 1) rfl (by decide) ?_
  refine y_iald (v := xs 1) (N := 7) 1 rfl (O 0 (by decide)).1 (jinb_of (by decide)) (by decide) ((O 0 (by decide)).2 1) ?_
  refine x_inv (N := m_X11_join) (As := [.int (xs 1)]) (b := 31) (st := []) (d' := 100) (mc := 0) (ms := 0) (host := "") 11 rfl t_X11_join ⟨Or.inl q_13_107, i_X11_join.1, i_X11_join.2⟩ ⟨by decide, rfl⟩ (congrArg Prod.fst (F.1 31 (11, 13) rfl rfl)) rfl (by decide) rfl rfl ⟨by decide, by decide⟩ (px_join (xs 1) F O ?_)
  intro h2 F2 O2
  show jX m_L_law 1300 600000 7302249 1131 [(3, .int 0), (2, .ref 125), (1, .ref 31), (0, .ref 0)] [.int (sp_join (xs 1))] _ 143 360892 _
  refine x_aloadn (x := 125) rfl rfl ?_
  refine x_aloadn (x := 0) rfl rfl ?_
  refine x_iloadn (x := 0) rfl rfl ?_
  refine x_iconst (v := 1) rfl ki_1 ?_
  refine y_iadd (v := 1) rfl (by decide) ?_
  refine y_iald (v := xs 1) (N := 7) 1 rfl (O2 0 (by decide)).1 (jinb_of (by decide)) (by decide) ((O2 0 (by decide)).2 1) ?_
  refine x_inv (N := m_X12_join) (As := [.int (xs 1)]) (b := 125) (st := [.int (sp_join (xs 1))]) (d' := 100) (mc := 0) (ms := 0) (host := "") 12 rfl t_X12_join ⟨Or.inl q_13_110, i_X12_join.1, i_X12_join.2⟩ ⟨by decide, rfl⟩ (congrArg Prod.fst (F2.1 125 (12, 92) rfl rfl)) rfl (by decide) rfl rfl ⟨by decide, by decide⟩ (pm_join (xs 1) F2 O2 ?_)
  intro h3 O3
  show jX m_L_law 1300 600000 7302249 1140 [(3, .int 0), (2, .ref 125), (1, .ref 31), (0, .ref 0)] [.int (sp_join (xs 1)), .int (sp_join (xs 1))] _ 143 360892 _
  refine x_iceq (tgt := 2887) rfl rfl (br_t rfl ?_)
  refine x_iinc (x := 0) (v := 7) (ls' := [(3, .int 7), (2, .ref 125), (1, .ref 31), (0, .ref 0)]) rfl rfl (by decide) rfl rfl ?_
  refine x_goto (tgt := 18) rfl rfl ?_
  refine x_iloadn (x := 7) rfl rfl ?_
  refine x_aloadn (x := 0) rfl rfl ?_
  refine y_alen (N := 7) (v := 7) rfl (O3 0 (by decide)).1 (by decide) (by decide) ?_
  refine x_bipush (v := 7) rfl kb_7 ?_
  refine y_isub (v := 0) rfl (by decide) ?_
  refine x_icgt (tgt := 2893) rfl rfl (br_t (by decide) ?_)
  refine x_iconst (v := 1) rfl ki_1 ?_
  refine x_zret rfl rfl (by first | decide | exact jp_01 _) ?_
  exact hQ _
set_option maxRecDepth 100000 in
set_option maxHeartbeats 40000000 in
theorem cs_torn {xs : Nat → Int32} {h : jH} {Q : Option Value → jH → Prop} (F : jFb 31 h) (O : jOl 7 xs h) (hQ : ∀ h', Q (some (.int 1)) h') : jX m_L_law 1300 600000 7302249 1145 [(3, .int 0), (2, .ref 125), (1, .ref 31), (0, .ref 0)] [] h 143 360892 Q := by
  refine x_aloadn (x := 31) rfl rfl ?_
  refine x_aloadn (x := 0) rfl rfl ?_
  refine x_iloadn (x := 0) rfl rfl ?_
  refine x_iconst (v := 1) rfl ki_1 ?_
  refine y_iadd (v := 1) rfl (by decide) ?_
  refine y_iald (v := xs 1) (N := 7) 1 rfl (O 0 (by decide)).1 (jinb_of (by decide)) (by decide) ((O 0 (by decide)).2 1) ?_
  refine x_aloadn (x := 0) rfl rfl ?_
  refine x_iloadn (x := 0) rfl rfl ?_
  refine x_iconst (v := 2) rfl ki_2 ?_
  refine y_iadd (v := 2) rfl (by decide) ?_
  refine y_iald (v := xs 2) (N := 7) 2 rfl (O 0 (by decide)).1 (jinb_of (by decide)) (by decide) ((O 0 (by decide)).2 2) ?_
  refine x_aloadn (x := 0) rfl rfl ?_
  refine x_iloadn (x := 0) rfl rfl ?_
  refine x_iconst (v := 3) rfl ki_3 ?_
  refine y_iadd (v := 3) rfl (by decide) ?_
  refine y_iald (v := xs 3) (N := 7) 3 rfl (O 0 (by decide)).1 (jinb_of (by decide)) (by decide) ((O 0 (by decide)).2 3) ?_
  refine x_aloadn (x := 0) rfl rfl ?_
  refine x_iloadn (x := 0) rfl rfl ?_
  refine x_iconst (v := 4) rfl ki_4 ?_
  refine y_iadd (v := 4) rfl (by decide) ?_
  refine y_iald (v := xs 4) (N := 7) 4 rfl (O 0 (by decide)).1 (jinb_of (by decide)) (by decide) ((O 0 (by decide)).2 4) ?_
  refine x_inv (N := m_X11_torn) (As := [.int (xs 1), .int (xs 2), .int (xs 3), .int (xs 4)]) (b := 31) (st := []) (d' := 100) (mc := 0) (ms := 0) (host := "") 11 rfl t_X11_torn ⟨Or.inl q_13_111, i_X11_torn.1, i_X11_torn.2⟩ ⟨by decide, rfl⟩ (congrArg Prod.fst (F.1 31 (11, 13) rfl rfl)) rfl (by decide) rfl rfl ⟨by decide, by decide⟩ (px_torn (xs 1) (xs 2) (xs 3) (xs 4) F O ?_)
  intro h2 F2 O2
  show jX m_L_law 1300 600000 7302249 1169 [(3, .int 0), (2, .ref 125), (1, .ref 31), (0, .ref 0)] [.int (sp_torn (xs 1) (xs 2) (xs 3) (xs 4))] _ 143 360892 _
  refine x_aloadn (x := 125) rfl rfl ?_
  refine x_aloadn (x := 0) rfl rfl ?_
  refine x_iloadn (x := 0) rfl rfl ?_
  refine x_iconst (v := 1) rfl ki_1 ?_
  refine y_iadd (v := 1) rfl (by decide) ?_
  refine y_iald (v := xs 1) (N := 7) 1 rfl (O2 0 (by decide)).1 (jinb_of (by decide)) (by decide) ((O2 0 (by decide)).2 1) ?_
  refine x_aloadn (x := 0) rfl rfl ?_
  refine x_iloadn (x := 0) rfl rfl ?_
  refine x_iconst (v := 2) rfl ki_2 ?_
  refine y_iadd (v := 2) rfl (by decide) ?_
  refine y_iald (v := xs 2) (N := 7) 2 rfl (O2 0 (by decide)).1 (jinb_of (by decide)) (by decide) ((O2 0 (by decide)).2 2) ?_
  refine x_aloadn (x := 0) rfl rfl ?_
  refine x_iloadn (x := 0) rfl rfl ?_
  refine x_iconst (v := 3) rfl ki_3 ?_
  refine y_iadd (v := 3) rfl (by decide) ?_
  refine y_iald (v := xs 3) (N := 7) 3 rfl (O2 0 (by decide)).1 (jinb_of (by decide)) (by decide) ((O2 0 (by decide)).2 3) ?_
  refine x_aloadn (x := 0) rfl rfl ?_
  refine x_iloadn (x := 0) rfl rfl ?_
  refine x_iconst (v := 4) rfl ki_4 ?_
  refine y_iadd (v := 4) rfl (by decide) ?_
  refine y_iald (v := xs 4) (N := 7) 4 rfl (O2 0 (by decide)).1 (jinb_of (by decide)) (by decide) ((O2 0 (by decide)).2 4) ?_
  refine x_inv (N := m_X12_torn) (As := [.int (xs 1), .int (xs 2), .int (xs 3), .int (xs 4)]) (b := 125) (st := [.int (sp_torn (xs 1) (xs 2) (xs 3) (xs 4))]) (d' := 100) (mc := 0) (ms := 0) (host := "") 12 rfl t_X12_torn ⟨Or.inl q_13_114, i_X12_torn.1, i_X12_torn.2⟩ ⟨by decide, rfl⟩ (congrArg Prod.fst (F2.1 125 (12, 92) rfl rfl)) rfl (by decide) rfl rfl ⟨by decide, by decide⟩ (pm_torn (xs 1) (xs 2) (xs 3) (xs 4) F2 O2 ?_)
  intro h3 O3
  show jX m_L_law 1300 600000 7302249 1193 [(3, .int 0), (2, .ref 125), (1, .ref 31), (0, .ref 0)] [.int (sp_torn (xs 1) (xs 2) (xs 3) (xs 4)), .int (sp_torn (xs 1) (xs 2) (xs 3) (xs 4))] _ 143 360892 _
  refine x_iceq (tgt := 2887) rfl rfl (br_t rfl ?_)
  refine x_iinc (x := 0) (v := 7) (ls' := [(3, .int 7), (2, .ref 125), (1, .ref 31), (0, .ref 0)]) rfl rfl (by decide) rfl rfl ?_
  refine x_goto (tgt := 18) rfl rfl ?_
  refine x_iloadn (x := 7) rfl rfl ?_
  refine x_aloadn (x := 0) rfl rfl ?_
  refine y_alen (N := 7) (v := 7) rfl (O3 0 (by decide)).1 (by decide) (by decide) ?_
  refine x_bipush (v := 7) rfl kb_7 ?_
  refine y_isub (v := 0) rfl (by decide) ?_
  refine x_icgt (tgt := 2893) rfl rfl (br_t (by decide) ?_)
  refine x_iconst (v := 1) rfl ki_1 ?_
  refine x_zret rfl rfl (by first | decide | exact jp_01 _) ?_
  exact hQ _
set_option maxRecDepth 100000 in
set_option maxHeartbeats 40000000 in
theorem cs_fill {xs : Nat → Int32} {h : jH} {Q : Option Value → jH → Prop} (F : jFb 31 h) (O : jOl 7 xs h) (hQ : ∀ h', Q (some (.int 1)) h') : jX m_L_law 1300 600000 7302249 1198 [(3, .int 0), (2, .ref 125), (1, .ref 31), (0, .ref 0)] [] h 143 360892 Q := by
  refine x_aloadn (x := 31) rfl rfl ?_
  refine x_aloadn (x := 0) rfl rfl ?_
  refine x_iloadn (x := 0) rfl rfl ?_
  refine x_iconst (v := 1) rfl ki_1 ?_
  refine y_iadd (v := 1) rfl (by decide) ?_
  refine y_iald (v := xs 1) (N := 7) 1 rfl (O 0 (by decide)).1 (jinb_of (by decide)) (by decide) ((O 0 (by decide)).2 1) ?_
  refine x_aloadn (x := 0) rfl rfl ?_
  refine x_iloadn (x := 0) rfl rfl ?_
  refine x_iconst (v := 2) rfl ki_2 ?_
  refine y_iadd (v := 2) rfl (by decide) ?_
  refine y_iald (v := xs 2) (N := 7) 2 rfl (O 0 (by decide)).1 (jinb_of (by decide)) (by decide) ((O 0 (by decide)).2 2) ?_
  refine x_aloadn (x := 0) rfl rfl ?_
  refine x_iloadn (x := 0) rfl rfl ?_
  refine x_iconst (v := 3) rfl ki_3 ?_
  refine y_iadd (v := 3) rfl (by decide) ?_
  refine y_iald (v := xs 3) (N := 7) 3 rfl (O 0 (by decide)).1 (jinb_of (by decide)) (by decide) ((O 0 (by decide)).2 3) ?_
  refine x_aloadn (x := 0) rfl rfl ?_
  refine x_iloadn (x := 0) rfl rfl ?_
  refine x_iconst (v := 4) rfl ki_4 ?_
  refine y_iadd (v := 4) rfl (by decide) ?_
  refine y_iald (v := xs 4) (N := 7) 4 rfl (O 0 (by decide)).1 (jinb_of (by decide)) (by decide) ((O 0 (by decide)).2 4) ?_
  refine x_aloadn (x := 0) rfl rfl ?_
  refine x_iloadn (x := 0) rfl rfl ?_
  refine x_iconst (v := 5) rfl ki_5 ?_
  refine y_iadd (v := 5) rfl (by decide) ?_
  refine y_iald (v := xs 5) (N := 7) 5 rfl (O 0 (by decide)).1 (jinb_of (by decide)) (by decide) ((O 0 (by decide)).2 5) ?_
  refine x_inv (N := m_X11_fill) (As := [.int (xs 1), .int (xs 2), .int (xs 3), .int (xs 4), .int (xs 5)]) (b := 31) (st := []) (d' := 100) (mc := 0) (ms := 0) (host := "") 11 rfl t_X11_fill ⟨Or.inl q_13_115, i_X11_fill.1, i_X11_fill.2⟩ ⟨by decide, rfl⟩ (congrArg Prod.fst (F.1 31 (11, 13) rfl rfl)) rfl (by decide) rfl rfl ⟨by decide, by decide⟩ (px_fill (xs 1) (xs 2) (xs 3) (xs 4) (xs 5) F O ?_)
  intro h2 F2 O2
  show jX m_L_law 1300 600000 7302249 1227 [(3, .int 0), (2, .ref 125), (1, .ref 31), (0, .ref 0)] [.int (sp_fill (xs 1) (xs 2) (xs 3) (xs 4) (xs 5))] _ 143 360892 _
  refine x_aloadn (x := 125) rfl rfl ?_
  refine x_aloadn (x := 0) rfl rfl ?_
  refine x_iloadn (x := 0) rfl rfl ?_
  refine x_iconst (v := 1) rfl ki_1 ?_
  refine y_iadd (v := 1) rfl (by decide) ?_
  refine y_iald (v := xs 1) (N := 7) 1 rfl (O2 0 (by decide)).1 (jinb_of (by decide)) (by decide) ((O2 0 (by decide)).2 1) ?_
  refine x_aloadn (x := 0) rfl rfl ?_
  refine x_iloadn (x := 0) rfl rfl ?_
  refine x_iconst (v := 2) rfl ki_2 ?_
  refine y_iadd (v := 2) rfl (by decide) ?_
  refine y_iald (v := xs 2) (N := 7) 2 rfl (O2 0 (by decide)).1 (jinb_of (by decide)) (by decide) ((O2 0 (by decide)).2 2) ?_
  refine x_aloadn (x := 0) rfl rfl ?_
  refine x_iloadn (x := 0) rfl rfl ?_
  refine x_iconst (v := 3) rfl ki_3 ?_
  refine y_iadd (v := 3) rfl (by decide) ?_
  refine y_iald (v := xs 3) (N := 7) 3 rfl (O2 0 (by decide)).1 (jinb_of (by decide)) (by decide) ((O2 0 (by decide)).2 3) ?_
  refine x_aloadn (x := 0) rfl rfl ?_
  refine x_iloadn (x := 0) rfl rfl ?_
  refine x_iconst (v := 4) rfl ki_4 ?_
  refine y_iadd (v := 4) rfl (by decide) ?_
  refine y_iald (v := xs 4) (N := 7) 4 rfl (O2 0 (by decide)).1 (jinb_of (by decide)) (by decide) ((O2 0 (by decide)).2 4) ?_
  refine x_aloadn (x := 0) rfl rfl ?_
  refine x_iloadn (x := 0) rfl rfl ?_
  refine x_iconst (v := 5) rfl ki_5 ?_
  refine y_iadd (v := 5) rfl (by decide) ?_
  refine y_iald (v := xs 5) (N := 7) 5 rfl (O2 0 (by decide)).1 (jinb_of (by decide)) (by decide) ((O2 0 (by decide)).2 5) ?_
  refine x_inv (N := m_X12_fill) (As := [.int (xs 1), .int (xs 2), .int (xs 3), .int (xs 4), .int (xs 5)]) (b := 125) (st := [.int (sp_fill (xs 1) (xs 2) (xs 3) (xs 4) (xs 5))]) (d' := 100) (mc := 0) (ms := 0) (host := "") 12 rfl t_X12_fill ⟨Or.inl q_13_118, i_X12_fill.1, i_X12_fill.2⟩ ⟨by decide, rfl⟩ (congrArg Prod.fst (F2.1 125 (12, 92) rfl rfl)) rfl (by decide) rfl rfl ⟨by decide, by decide⟩ (pm_fill (xs 1) (xs 2) (xs 3) (xs 4) (xs 5) F2 O2 ?_)
  intro h3 O3
  show jX m_L_law 1300 600000 7302249 1256 [(3, .int 0), (2, .ref 125), (1, .ref 31), (0, .ref 0)] [.int (sp_fill (xs 1) (xs 2) (xs 3) (xs 4) (xs 5)), .int (sp_fill (xs 1) (xs 2) (xs 3) (xs 4) (xs 5))] _ 143 360892 _
  refine x_iceq (tgt := 2887) rfl rfl (br_t rfl ?_)
  refine x_iinc (x := 0) (v := 7) (ls' := [(3, .int 7), (2, .ref 125), (1, .ref 31), (0, .ref 0)]) rfl rfl (by decide) rfl rfl ?_
  refine x_goto (tgt := 18) rfl rfl ?_
  refine x_iloadn (x := 7) rfl rfl ?_
  refine x_aloadn (x := 0) rfl rfl ?_
  refine y_alen (N := 7) (v := 7) rfl (O3 0 (by decide)).1 (by decide) (by decide) ?_
  refine x_bipush (v := 7) rfl kb_7 ?_
  refine y_isub (v := 0) rfl (by decide) ?_
  refine x_icgt (tgt := 2893) rfl rfl (br_t (by decide) ?_)
  refine x_iconst (v := 1) rfl ki_1 ?_
  refine x_zret rfl rfl (by first | decide | exact jp_01 _) ?_
  exact hQ _
set_option maxRecDepth 100000 in
set_option maxHeartbeats 40000000 in
theorem cs_text {xs : Nat → Int32} {h : jH} {Q : Option Value → jH → Prop} (F : jFb 31 h) (O : jOl 7 xs h) (hQ : ∀ h', Q (some (.int 1)) h') : jX m_L_law 1300 600000 7302249 1261 [(3, .int 0), (2, .ref 125), (1, .ref 31), (0, .ref 0)] [] h 143 360892 Q := by
  refine x_aloadn (x := 31) rfl rfl ?_
  refine x_aloadn (x := 0) rfl rfl ?_
  refine x_iloadn (x := 0) rfl rfl ?_
  refine x_iconst (v := 1) rfl ki_1 ?_
  refine y_iadd (v := 1) rfl (by decide) ?_
  refine y_iald (v := xs 1) (N := 7) 1 rfl (O 0 (by decide)).1 (jinb_of (by decide)) (by decide) ((O 0 (by decide)).2 1) ?_
  refine x_aloadn (x := 0) rfl rfl ?_
  refine x_iloadn (x := 0) rfl rfl ?_
  refine x_iconst (v := 2) rfl ki_2 ?_
  refine y_iadd (v := 2) rfl (by decide) ?_
  refine y_iald (v := xs 2) (N := 7) 2 rfl (O 0 (by decide)).1 (jinb_of (by decide)) (by decide) ((O 0 (by decide)).2 2) ?_
  refine x_aloadn (x := 0) rfl rfl ?_
  refine x_iloadn (x := 0) rfl rfl ?_
  refine x_iconst (v := 3) rfl ki_3 ?_
  refine y_iadd (v := 3) rfl (by decide) ?_
  refine y_iald (v := xs 3) (N := 7) 3 rfl (O 0 (by decide)).1 (jinb_of (by decide)) (by decide) ((O 0 (by decide)).2 3) ?_
  refine x_inv (N := m_X11_text) (As := [.int (xs 1), .int (xs 2), .int (xs 3)]) (b := 31) (st := []) (d' := 100) (mc := 0) (ms := 0) (host := "") 11 rfl t_X11_text ⟨Or.inl q_13_119, i_X11_text.1, i_X11_text.2⟩ ⟨by decide, rfl⟩ (congrArg Prod.fst (F.1 31 (11, 13) rfl rfl)) rfl (by decide) rfl rfl ⟨by decide, by decide⟩ (px_text (xs 1) (xs 2) (xs 3) F O ?_)
  intro h2 F2 O2
  show jX m_L_law 1300 600000 7302249 1280 [(3, .int 0), (2, .ref 125), (1, .ref 31), (0, .ref 0)] [.int (sp_text (xs 1) (xs 2) (xs 3))] _ 143 360892 _
  refine x_aloadn (x := 125) rfl rfl ?_
  refine x_aloadn (x := 0) rfl rfl ?_
  refine x_iloadn (x := 0) rfl rfl ?_
  refine x_iconst (v := 1) rfl ki_1 ?_
  refine y_iadd (v := 1) rfl (by decide) ?_
  refine y_iald (v := xs 1) (N := 7) 1 rfl (O2 0 (by decide)).1 (jinb_of (by decide)) (by decide) ((O2 0 (by decide)).2 1) ?_
  refine x_aloadn (x := 0) rfl rfl ?_
  refine x_iloadn (x := 0) rfl rfl ?_
  refine x_iconst (v := 2) rfl ki_2 ?_
  refine y_iadd (v := 2) rfl (by decide) ?_
  refine y_iald (v := xs 2) (N := 7) 2 rfl (O2 0 (by decide)).1 (jinb_of (by decide)) (by decide) ((O2 0 (by decide)).2 2) ?_
  refine x_aloadn (x := 0) rfl rfl ?_
  refine x_iloadn (x := 0) rfl rfl ?_
  refine x_iconst (v := 3) rfl ki_3 ?_
  refine y_iadd (v := 3) rfl (by decide) ?_
  refine y_iald (v := xs 3) (N := 7) 3 rfl (O2 0 (by decide)).1 (jinb_of (by decide)) (by decide) ((O2 0 (by decide)).2 3) ?_
  refine x_inv (N := m_X12_text) (As := [.int (xs 1), .int (xs 2), .int (xs 3)]) (b := 125) (st := [.int (sp_text (xs 1) (xs 2) (xs 3))]) (d' := 100) (mc := 0) (ms := 0) (host := "") 12 rfl t_X12_text ⟨Or.inl q_13_122, i_X12_text.1, i_X12_text.2⟩ ⟨by decide, rfl⟩ (congrArg Prod.fst (F2.1 125 (12, 92) rfl rfl)) rfl (by decide) rfl rfl ⟨by decide, by decide⟩ (pm_text (xs 1) (xs 2) (xs 3) F2 O2 ?_)
  intro h3 O3
  show jX m_L_law 1300 600000 7302249 1299 [(3, .int 0), (2, .ref 125), (1, .ref 31), (0, .ref 0)] [.int (sp_text (xs 1) (xs 2) (xs 3)), .int (sp_text (xs 1) (xs 2) (xs 3))] _ 143 360892 _
  refine x_iceq (tgt := 2887) rfl rfl (br_t rfl ?_)
  refine x_iinc (x := 0) (v := 7) (ls' := [(3, .int 7), (2, .ref 125), (1, .ref 31), (0, .ref 0)]) rfl rfl (by decide) rfl rfl ?_
  refine x_goto (tgt := 18) rfl rfl ?_
  refine x_iloadn (x := 7) rfl rfl ?_
  refine x_aloadn (x := 0) rfl rfl ?_
  refine y_alen (N := 7) (v := 7) rfl (O3 0 (by decide)).1 (by decide) (by decide) ?_
  refine x_bipush (v := 7) rfl kb_7 ?_
  refine y_isub (v := 0) rfl (by decide) ?_
  refine x_icgt (tgt := 2893) rfl rfl (br_t (by decide) ?_)
  refine x_iconst (v := 1) rfl ki_1 ?_
  refine x_zret rfl rfl (by first | decide | exact jp_01 _) ?_
  exact hQ _
set_option maxRecDepth 100000 in
set_option maxHeartbeats 40000000 in
theorem cs_force {xs : Nat → Int32} {h : jH} {Q : Option Value → jH → Prop} (F : jFb 31 h) (O : jOl 7 xs h) (hQ : ∀ h', Q (some (.int 1)) h') : jX m_L_law 1300 600000 7302249 1304 [(3, .int 0), (2, .ref 125), (1, .ref 31), (0, .ref 0)] [] h 143 360892 Q := by
  refine x_aloadn (x := 31) rfl rfl ?_
  refine x_aloadn (x := 0) rfl rfl ?_
  refine x_iloadn (x := 0) rfl rfl ?_
  refine x_iconst (v := 1) rfl ki_1 ?_
  refine y_iadd (v := 1) rfl (by decide) ?_
  refine y_iald (v := xs 1) (N := 7) 1 rfl (O 0 (by decide)).1 (jinb_of (by decide)) (by decide) ((O 0 (by decide)).2 1) ?_
  refine x_aloadn (x := 0) rfl rfl ?_
  refine x_iloadn (x := 0) rfl rfl ?_
  refine x_iconst (v := 2) rfl ki_2 ?_
  refine y_iadd (v := 2) rfl (by decide) ?_
  refine y_iald (v := xs 2) (N := 7) 2 rfl (O 0 (by decide)).1 (jinb_of (by decide)) (by decide) ((O 0 (by decide)).2 2) ?_
  refine x_aloadn (x := 0) rfl rfl ?_
  refine x_iloadn (x := 0) rfl rfl ?_
  refine x_iconst (v := 3) rfl ki_3 ?_
  refine y_iadd (v := 3) rfl (by decide) ?_
  refine y_iald (v := xs 3) (N := 7) 3 rfl (O 0 (by decide)).1 (jinb_of (by decide)) (by decide) ((O 0 (by decide)).2 3) ?_
  refine x_aloadn (x := 0) rfl rfl ?_
  refine x_iloadn (x := 0) rfl rfl ?_
  refine x_iconst (v := 4) rfl ki_4 ?_
  refine y_iadd (v := 4) rfl (by decide) ?_
  refine y_iald (v := xs 4) (N := 7) 4 rfl (O 0 (by decide)).1 (jinb_of (by decide)) (by decide) ((O 0 (by decide)).2 4) ?_
  refine x_inv (N := m_X11_force) (As := [.int (xs 1), .int (xs 2), .int (xs 3), .int (xs 4)]) (b := 31) (st := []) (d' := 100) (mc := 0) (ms := 0) (host := "") 11 rfl t_X11_force ⟨Or.inl q_13_123, i_X11_force.1, i_X11_force.2⟩ ⟨by decide, rfl⟩ (congrArg Prod.fst (F.1 31 (11, 13) rfl rfl)) rfl (by decide) rfl rfl ⟨by decide, by decide⟩ (px_force (xs 1) (xs 2) (xs 3) (xs 4) F O ?_)
  intro h2 F2 O2
  show jX m_L_law 1300 600000 7302249 1328 [(3, .int 0), (2, .ref 125), (1, .ref 31), (0, .ref 0)] [.int (sp_force (xs 1) (xs 2) (xs 3) (xs 4))] _ 143 360892 _
  refine x_aloadn (x := 125) rfl rfl ?_
  refine x_aloadn (x := 0) rfl rfl ?_
  refine x_iloadn (x := 0) rfl rfl ?_
  refine x_iconst (v := 1) rfl ki_1 ?_
  refine y_iadd (v := 1) rfl (by decide) ?_
  refine y_iald (v := xs 1) (N := 7) 1 rfl (O2 0 (by decide)).1 (jinb_of (by decide)) (by decide) ((O2 0 (by decide)).2 1) ?_
  refine x_aloadn (x := 0) rfl rfl ?_
  refine x_iloadn (x := 0) rfl rfl ?_
  refine x_iconst (v := 2) rfl ki_2 ?_
  refine y_iadd (v := 2) rfl (by decide) ?_
  refine y_iald (v := xs 2) (N := 7) 2 rfl (O2 0 (by decide)).1 (jinb_of (by decide)) (by decide) ((O2 0 (by decide)).2 2) ?_
  refine x_aloadn (x := 0) rfl rfl ?_
  refine x_iloadn (x := 0) rfl rfl ?_
  refine x_iconst (v := 3) rfl ki_3 ?_
  refine y_iadd (v := 3) rfl (by decide) ?_
  refine y_iald (v := xs 3) (N := 7) 3 rfl (O2 0 (by decide)).1 (jinb_of (by decide)) (by decide) ((O2 0 (by decide)).2 3) ?_
  refine x_aloadn (x := 0) rfl rfl ?_
  refine x_iloadn (x := 0) rfl rfl ?_
  refine x_iconst (v := 4) rfl ki_4 ?_
  refine y_iadd (v := 4) rfl (by decide) ?_
  refine y_iald (v := xs 4) (N := 7) 4 rfl (O2 0 (by decide)).1 (jinb_of (by decide)) (by decide) ((O2 0 (by decide)).2 4) ?_
  refine x_inv (N := m_X12_force) (As := [.int (xs 1), .int (xs 2), .int (xs 3), .int (xs 4)]) (b := 125) (st := [.int (sp_force (xs 1) (xs 2) (xs 3) (xs 4))]) (d' := 100) (mc := 0) (ms := 0) (host := "") 12 rfl t_X12_force ⟨Or.inl q_13_126, i_X12_force.1, i_X12_force.2⟩ ⟨by decide, rfl⟩ (congrArg Prod.fst (F2.1 125 (12, 92) rfl rfl)) rfl (by decide) rfl rfl ⟨by decide, by decide⟩ (pm_force (xs 1) (xs 2) (xs 3) (xs 4) F2 O2 ?_)
  intro h3 O3
  show jX m_L_law 1300 600000 7302249 1352 [(3, .int 0), (2, .ref 125), (1, .ref 31), (0, .ref 0)] [.int (sp_force (xs 1) (xs 2) (xs 3) (xs 4)), .int (sp_force (xs 1) (xs 2) (xs 3) (xs 4))] _ 143 360892 _
  refine x_iceq (tgt := 2887) rfl rfl (br_t rfl ?_)
  refine x_iinc (x := 0) (v := 7) (ls' := [(3, .int 7), (2, .ref 125), (1, .ref 31), (0, .ref 0)]) rfl rfl (by decide) rfl rfl ?_
  refine x_goto (tgt := 18) rfl rfl ?_
  refine x_iloadn (x := 7) rfl rfl ?_
  refine x_aloadn (x := 0) rfl rfl ?_
  refine y_alen (N := 7) (v := 7) rfl (O3 0 (by decide)).1 (by decide) (by decide) ?_
  refine x_bipush (v := 7) rfl kb_7 ?_
  refine y_isub (v := 0) rfl (by decide) ?_
  refine x_icgt (tgt := 2893) rfl rfl (br_t (by decide) ?_)
  refine x_iconst (v := 1) rfl ki_1 ?_
  refine x_zret rfl rfl (by first | decide | exact jp_01 _) ?_
  exact hQ _
set_option maxRecDepth 100000 in
set_option maxHeartbeats 40000000 in
theorem cs_holds {xs : Nat → Int32} {h : jH} {Q : Option Value → jH → Prop} (F : jFb 31 h) (O : jOl 7 xs h) (hQ : ∀ h', Q (some (.int 1)) h') : jX m_L_law 1300 600000 7302249 1357 [(3, .int 0), (2, .ref 125), (1, .ref 31), (0, .ref 0)] [] h 143 360892 Q := by
  refine x_aloadn (x := 31) rfl rfl ?_
  refine x_aloadn (x := 0) rfl rfl ?_
  refine x_iloadn (x := 0) rfl rfl ?_
  refine x_iconst (v := 1) rfl ki_1 ?_
  refine y_iadd (v := 1) rfl (by decide) ?_
  refine y_iald (v := xs 1) (N := 7) 1 rfl (O 0 (by decide)).1 (jinb_of (by decide)) (by decide) ((O 0 (by decide)).2 1) ?_
  refine x_aloadn (x := 0) rfl rfl ?_
  refine x_iloadn (x := 0) rfl rfl ?_
  refine x_iconst (v := 2) rfl ki_2 ?_
  refine y_iadd (v := 2) rfl (by decide) ?_
  refine y_iald (v := xs 2) (N := 7) 2 rfl (O 0 (by decide)).1 (jinb_of (by decide)) (by decide) ((O 0 (by decide)).2 2) ?_
  refine x_aloadn (x := 0) rfl rfl ?_
  refine x_iloadn (x := 0) rfl rfl ?_
  refine x_iconst (v := 3) rfl ki_3 ?_
  refine y_iadd (v := 3) rfl (by decide) ?_
  refine y_iald (v := xs 3) (N := 7) 3 rfl (O 0 (by decide)).1 (jinb_of (by decide)) (by decide) ((O 0 (by decide)).2 3) ?_
  refine x_aloadn (x := 0) rfl rfl ?_
  refine x_iloadn (x := 0) rfl rfl ?_
  refine x_iconst (v := 4) rfl ki_4 ?_
  refine y_iadd (v := 4) rfl (by decide) ?_
  refine y_iald (v := xs 4) (N := 7) 4 rfl (O 0 (by decide)).1 (jinb_of (by decide)) (by decide) ((O 0 (by decide)).2 4) ?_
  refine x_aloadn (x := 0) rfl rfl ?_
  refine x_iloadn (x := 0) rfl rfl ?_
  refine x_iconst (v := 5) rfl ki_5 ?_
  refine y_iadd (v := 5) rfl (by decide) ?_
  refine y_iald (v := xs 5) (N := 7) 5 rfl (O 0 (by decide)).1 (jinb_of (by decide)) (by decide) ((O 0 (by decide)).2 5) ?_
  refine x_inv (N := m_X11_holds) (As := [.int (xs 1), .int (xs 2), .int (xs 3), .int (xs 4), .int (xs 5)]) (b := 31) (st := []) (d' := 100) (mc := 0) (ms := 0) (host := "") 11 rfl t_X11_holds ⟨Or.inl q_13_127, i_X11_holds.1, i_X11_holds.2⟩ ⟨by decide, rfl⟩ (congrArg Prod.fst (F.1 31 (11, 13) rfl rfl)) rfl (by decide) rfl rfl ⟨by decide, by decide⟩ (px_holds (xs 1) (xs 2) (xs 3) (xs 4) (xs 5) F O ?_)
  intro h2 F2 O2
  show jX m_L_law 1300 600000 7302249 1386 [(3, .int 0), (2, .ref 125), (1, .ref 31), (0, .ref 0)] [.int (sp_holds (xs 1) (xs 2) (xs 3) (xs 4) (xs 5))] _ 143 360892 _
  refine x_aloadn (x := 125) rfl rfl ?_
  refine x_aloadn (x := 0) rfl rfl ?_
  refine x_iloadn (x := 0) rfl rfl ?_
  refine x_iconst (v := 1) rfl ki_1 ?_
  refine y_iadd (v := 1) rfl (by decide) ?_
  refine y_iald (v := xs 1) (N := 7) 1 rfl (O2 0 (by decide)).1 (jinb_of (by decide)) (by decide) ((O2 0 (by decide)).2 1) ?_
  refine x_aloadn (x := 0) rfl rfl ?_
  refine x_iloadn (x := 0) rfl rfl ?_
  refine x_iconst (v := 2) rfl ki_2 ?_
  refine y_iadd (v := 2) rfl (by decide) ?_
  refine y_iald (v := xs 2) (N := 7) 2 rfl (O2 0 (by decide)).1 (jinb_of (by decide)) (by decide) ((O2 0 (by decide)).2 2) ?_
  refine x_aloadn (x := 0) rfl rfl ?_
  refine x_iloadn (x := 0) rfl rfl ?_
  refine x_iconst (v := 3) rfl ki_3 ?_
  refine y_iadd (v := 3) rfl (by decide) ?_
  refine y_iald (v := xs 3) (N := 7) 3 rfl (O2 0 (by decide)).1 (jinb_of (by decide)) (by decide) ((O2 0 (by decide)).2 3) ?_
  refine x_aloadn (x := 0) rfl rfl ?_
  refine x_iloadn (x := 0) rfl rfl ?_
  refine x_iconst (v := 4) rfl ki_4 ?_
  refine y_iadd (v := 4) rfl (by decide) ?_
  refine y_iald (v := xs 4) (N := 7) 4 rfl (O2 0 (by decide)).1 (jinb_of (by decide)) (by decide) ((O2 0 (by decide)).2 4) ?_
  refine x_aloadn (x := 0) rfl rfl ?_
  refine x_iloadn (x := 0) rfl rfl ?_
  refine x_iconst (v := 5) rfl ki_5 ?_
  refine y_iadd (v := 5) rfl (by decide) ?_
  refine y_iald (v := xs 5) (N := 7) 5 rfl (O2 0 (by decide)).1 (jinb_of (by decide)) (by decide) ((O2 0 (by decide)).2 5) ?_
  refine x_inv (N := m_X12_holds) (As := [.int (xs 1), .int (xs 2), .int (xs 3), .int (xs 4), .int (xs 5)]) (b := 125) (st := [.int (sp_holds (xs 1) (xs 2) (xs 3) (xs 4) (xs 5))]) (d' := 100) (mc := 0) (ms := 0) (host := "") 12 rfl t_X12_holds ⟨Or.inl q_13_130, i_X12_holds.1, i_X12_holds.2⟩ ⟨by decide, rfl⟩ (congrArg Prod.fst (F2.1 125 (12, 92) rfl rfl)) rfl (by decide) rfl rfl ⟨by decide, by decide⟩ (pm_holds (xs 1) (xs 2) (xs 3) (xs 4) (xs 5) F2 O2 ?_)
  intro h3 O3
  show jX m_L_law 1300 600000 7302249 1415 [(3, .int 0), (2, .ref 125), (1, .ref 31), (0, .ref 0)] [.int (sp_holds (xs 1) (xs 2) (xs 3) (xs 4) (xs 5)), .int (sp_holds (xs 1) (xs 2) (xs 3) (xs 4) (xs 5))] _ 143 360892 _
  refine x_iceq (tgt := 2887) rfl rfl (br_t rfl ?_)
  refine x_iinc (x := 0) (v := 7) (ls' := [(3, .int 7), (2, .ref 125), (1, .ref 31), (0, .ref 0)]) rfl rfl (by decide) rfl rfl ?_
  refine x_goto (tgt := 18) rfl rfl ?_
  refine x_iloadn (x := 7) rfl rfl ?_
  refine x_aloadn (x := 0) rfl rfl ?_
  refine y_alen (N := 7) (v := 7) rfl (O3 0 (by decide)).1 (by decide) (by decide) ?_
  refine x_bipush (v := 7) rfl kb_7 ?_
  refine y_isub (v := 0) rfl (by decide) ?_
  refine x_icgt (tgt := 2893) rfl rfl (br_t (by decide) ?_)
  refine x_iconst (v := 1) rfl ki_1 ?_
  refine x_zret rfl rfl (by first | decide | exact jp_01 _) ?_
  exact hQ _
set_option maxRecDepth 100000 in
set_option maxHeartbeats 40000000 in
theorem cs_counts {xs : Nat → Int32} {h : jH} {Q : Option Value → jH → Prop} (F : jFb 31 h) (O : jOl 7 xs h) (hQ : ∀ h', Q (some (.int 1)) h') : jX m_L_law 1300 600000 7302249 1420 [(3, .int 0), (2, .ref 125), (1, .ref 31), (0, .ref 0)] [] h 143 360892 Q := by
  refine x_aloadn (x := 31) rfl rfl ?_
  refine x_aloadn (x := 0) rfl rfl ?_
  refine x_iloadn (x := 0) rfl rfl ?_
  refine x_iconst (v := 1) rfl ki_1 ?_
  refine y_iadd (v := 1) rfl (by decide) ?_
  refine y_iald (v := xs 1) (N := 7) 1 rfl (O 0 (by decide)).1 (jinb_of (by decide)) (by decide) ((O 0 (by decide)).2 1) ?_
  refine x_aloadn (x := 0) rfl rfl ?_
  refine x_iloadn (x := 0) rfl rfl ?_
  refine x_iconst (v := 2) rfl ki_2 ?_
  refine y_iadd (v := 2) rfl (by decide) ?_
  refine y_iald (v := xs 2) (N := 7) 2 rfl (O 0 (by decide)).1 (jinb_of (by decide)) (by decide) ((O 0 (by decide)).2 2) ?_
  refine x_aloadn (x := 0) rfl rfl ?_
  refine x_iloadn (x := 0) rfl rfl ?_
  refine x_iconst (v := 3) rfl ki_3 ?_
  refine y_iadd (v := 3) rfl (by decide) ?_
  refine y_iald (v := xs 3) (N := 7) 3 rfl (O 0 (by decide)).1 (jinb_of (by decide)) (by decide) ((O 0 (by decide)).2 3) ?_
  refine x_aloadn (x := 0) rfl rfl ?_
  refine x_iloadn (x := 0) rfl rfl ?_
  refine x_iconst (v := 4) rfl ki_4 ?_
  refine y_iadd (v := 4) rfl (by decide) ?_
  refine y_iald (v := xs 4) (N := 7) 4 rfl (O 0 (by decide)).1 (jinb_of (by decide)) (by decide) ((O 0 (by decide)).2 4) ?_
  refine x_aloadn (x := 0) rfl rfl ?_
  refine x_iloadn (x := 0) rfl rfl ?_
  refine x_iconst (v := 5) rfl ki_5 ?_
  refine y_iadd (v := 5) rfl (by decide) ?_
  refine y_iald (v := xs 5) (N := 7) 5 rfl (O 0 (by decide)).1 (jinb_of (by decide)) (by decide) ((O 0 (by decide)).2 5) ?_
  refine x_inv (N := m_X11_counts) (As := [.int (xs 1), .int (xs 2), .int (xs 3), .int (xs 4), .int (xs 5)]) (b := 31) (st := []) (d' := 100) (mc := 0) (ms := 0) (host := "") 11 rfl t_X11_counts ⟨Or.inl q_13_131, i_X11_counts.1, i_X11_counts.2⟩ ⟨by decide, rfl⟩ (congrArg Prod.fst (F.1 31 (11, 13) rfl rfl)) rfl (by decide) rfl rfl ⟨by decide, by decide⟩ (px_counts (xs 1) (xs 2) (xs 3) (xs 4) (xs 5) F O ?_)
  intro h2 F2 O2
  show jX m_L_law 1300 600000 7302249 1449 [(3, .int 0), (2, .ref 125), (1, .ref 31), (0, .ref 0)] [.long (sp_counts (xs 1) (xs 2) (xs 3) (xs 4) (xs 5))] _ 143 360892 _
  refine x_aloadn (x := 125) rfl rfl ?_
  refine x_aloadn (x := 0) rfl rfl ?_
  refine x_iloadn (x := 0) rfl rfl ?_
  refine x_iconst (v := 1) rfl ki_1 ?_
  refine y_iadd (v := 1) rfl (by decide) ?_
  refine y_iald (v := xs 1) (N := 7) 1 rfl (O2 0 (by decide)).1 (jinb_of (by decide)) (by decide) ((O2 0 (by decide)).2 1) ?_
  refine x_aloadn (x := 0) rfl rfl ?_
  refine x_iloadn (x := 0) rfl rfl ?_
  refine x_iconst (v := 2) rfl ki_2 ?_
  refine y_iadd (v := 2) rfl (by decide) ?_
  refine y_iald (v := xs 2) (N := 7) 2 rfl (O2 0 (by decide)).1 (jinb_of (by decide)) (by decide) ((O2 0 (by decide)).2 2) ?_
  refine x_aloadn (x := 0) rfl rfl ?_
  refine x_iloadn (x := 0) rfl rfl ?_
  refine x_iconst (v := 3) rfl ki_3 ?_
  refine y_iadd (v := 3) rfl (by decide) ?_
  refine y_iald (v := xs 3) (N := 7) 3 rfl (O2 0 (by decide)).1 (jinb_of (by decide)) (by decide) ((O2 0 (by decide)).2 3) ?_
  refine x_aloadn (x := 0) rfl rfl ?_
  refine x_iloadn (x := 0) rfl rfl ?_
  refine x_iconst (v := 4) rfl ki_4 ?_
  refine y_iadd (v := 4) rfl (by decide) ?_
  refine y_iald (v := xs 4) (N := 7) 4 rfl (O2 0 (by decide)).1 (jinb_of (by decide)) (by decide) ((O2 0 (by decide)).2 4) ?_
  refine x_aloadn (x := 0) rfl rfl ?_
  refine x_iloadn (x := 0) rfl rfl ?_
  refine x_iconst (v := 5) rfl ki_5 ?_
  refine y_iadd (v := 5) rfl (by decide) ?_
  refine y_iald (v := xs 5) (N := 7) 5 rfl (O2 0 (by decide)).1 (jinb_of (by decide)) (by decide) ((O2 0 (by decide)).2 5) ?_
  refine x_inv (N := m_X12_counts) (As := [.int (xs 1), .int (xs 2), .int (xs 3), .int (xs 4), .int (xs 5)]) (b := 125) (st := [.long (sp_counts (xs 1) (xs 2) (xs 3) (xs 4) (xs 5))]) (d' := 100) (mc := 0) (ms := 0) (host := "") 12 rfl t_X12_counts ⟨Or.inl q_13_135, i_X12_counts.1, i_X12_counts.2⟩ ⟨by decide, rfl⟩ (congrArg Prod.fst (F2.1 125 (12, 92) rfl rfl)) rfl (by decide) rfl rfl ⟨by decide, by decide⟩ (pm_counts (xs 1) (xs 2) (xs 3) (xs 4) (xs 5) F2 O2 ?_)
  intro h3 O3
  show jX m_L_law 1300 600000 7302249 1478 [(3, .int 0), (2, .ref 125), (1, .ref 31), (0, .ref 0)] [.long (sp_counts (xs 1) (xs 2) (xs 3) (xs 4) (xs 5)), .long (sp_counts (xs 1) (xs 2) (xs 3) (xs 4) (xs 5))] _ 143 360892 _
  refine y_lcmp (v := 0) rfl (jlg_self _) ?_
  refine x_ifeq (tgt := 2887) rfl rfl (br_t (by decide) ?_)
  refine x_iinc (x := 0) (v := 7) (ls' := [(3, .int 7), (2, .ref 125), (1, .ref 31), (0, .ref 0)]) rfl rfl (by decide) rfl rfl ?_
  refine x_goto (tgt := 18) rfl rfl ?_
  refine x_iloadn (x := 7) rfl rfl ?_
  refine x_aloadn (x := 0) rfl rfl ?_
  refine y_alen (N := 7) (v := 7) rfl (O3 0 (by decide)).1 (by decide) (by decide) ?_
  refine x_bipush (v := 7) rfl kb_7 ?_
  refine y_isub (v := 0) rfl (by decide) ?_
  refine x_icgt (tgt := 2893) rfl rfl (br_t (by decide) ?_)
  refine x_iconst (v := 1) rfl ki_1 ?_
  refine x_zret rfl rfl (by first | decide | exact jp_01 _) ?_
  exact hQ _
set_option maxRecDepth 100000 in
set_option maxHeartbeats 40000000 in
theorem cs_about {xs : Nat → Int32} {h : jH} {Q : Option Value → jH → Prop} (F : jFb 31 h) (O : jOl 7 xs h) (hQ : ∀ h', Q (some (.int 1)) h') : jX m_L_law 1300 600000 7302249 1484 [(3, .int 0), (2, .ref 125), (1, .ref 31), (0, .ref 0)] [] h 143 360892 Q := by
  refine x_aloadn (x := 31) rfl rfl ?_
  refine x_aloadn (x := 0) rfl rfl ?_
  refine x_iloadn (x := 0) rfl rfl ?_
  refine x_iconst (v := 1) rfl ki_1 ?_
  refine y_iadd (v := 1) rfl (by decide) ?_
  refine y_iald (v := xs 1) (N := 7) 1 rfl (O 0 (by decide)).1 (jinb_of (by decide)) (by decide) ((O 0 (by decide)).2 1) ?_
  refine x_aloadn (x := 0) rfl rfl ?_
  refine x_iloadn (x := 0) rfl rfl ?_
  refine x_iconst (v := 2) rfl ki_2 ?_
  refine y_iadd (v := 2) rfl (by decide) ?_
  refine y_iald (v := xs 2) (N := 7) 2 rfl (O 0 (by decide)).1 (jinb_of (by decide)) (by decide) ((O 0 (by decide)).2 2) ?_
  refine x_aloadn (x := 0) rfl rfl ?_
  refine x_iloadn (x := 0) rfl rfl ?_
  refine x_iconst (v := 3) rfl ki_3 ?_
  refine y_iadd (v := 3) rfl (by decide) ?_
  refine y_iald (v := xs 3) (N := 7) 3 rfl (O 0 (by decide)).1 (jinb_of (by decide)) (by decide) ((O 0 (by decide)).2 3) ?_
  refine x_aloadn (x := 0) rfl rfl ?_
  refine x_iloadn (x := 0) rfl rfl ?_
  refine x_iconst (v := 4) rfl ki_4 ?_
  refine y_iadd (v := 4) rfl (by decide) ?_
  refine y_iald (v := xs 4) (N := 7) 4 rfl (O 0 (by decide)).1 (jinb_of (by decide)) (by decide) ((O 0 (by decide)).2 4) ?_
  refine x_inv (N := m_X11_about) (As := [.int (xs 1), .int (xs 2), .int (xs 3), .int (xs 4)]) (b := 31) (st := []) (d' := 100) (mc := 0) (ms := 0) (host := "") 11 rfl t_X11_about ⟨Or.inl q_13_136, i_X11_about.1, i_X11_about.2⟩ ⟨by decide, rfl⟩ (congrArg Prod.fst (F.1 31 (11, 13) rfl rfl)) rfl (by decide) rfl rfl ⟨by decide, by decide⟩ (px_about (xs 1) (xs 2) (xs 3) (xs 4) F O ?_)
  intro h2 F2 O2
  show jX m_L_law 1300 600000 7302249 1508 [(3, .int 0), (2, .ref 125), (1, .ref 31), (0, .ref 0)] [.long (sp_about (xs 1) (xs 2) (xs 3) (xs 4))] _ 143 360892 _
  refine x_aloadn (x := 125) rfl rfl ?_
  refine x_aloadn (x := 0) rfl rfl ?_
  refine x_iloadn (x := 0) rfl rfl ?_
  refine x_iconst (v := 1) rfl ki_1 ?_
  refine y_iadd (v := 1) rfl (by decide) ?_
  refine y_iald (v := xs 1) (N := 7) 1 rfl (O2 0 (by decide)).1 (jinb_of (by decide)) (by decide) ((O2 0 (by decide)).2 1) ?_
  refine x_aloadn (x := 0) rfl rfl ?_
  refine x_iloadn (x := 0) rfl rfl ?_
  refine x_iconst (v := 2) rfl ki_2 ?_
  refine y_iadd (v := 2) rfl (by decide) ?_
  refine y_iald (v := xs 2) (N := 7) 2 rfl (O2 0 (by decide)).1 (jinb_of (by decide)) (by decide) ((O2 0 (by decide)).2 2) ?_
  refine x_aloadn (x := 0) rfl rfl ?_
  refine x_iloadn (x := 0) rfl rfl ?_
  refine x_iconst (v := 3) rfl ki_3 ?_
  refine y_iadd (v := 3) rfl (by decide) ?_
  refine y_iald (v := xs 3) (N := 7) 3 rfl (O2 0 (by decide)).1 (jinb_of (by decide)) (by decide) ((O2 0 (by decide)).2 3) ?_
  refine x_aloadn (x := 0) rfl rfl ?_
  refine x_iloadn (x := 0) rfl rfl ?_
  refine x_iconst (v := 4) rfl ki_4 ?_
  refine y_iadd (v := 4) rfl (by decide) ?_
  refine y_iald (v := xs 4) (N := 7) 4 rfl (O2 0 (by decide)).1 (jinb_of (by decide)) (by decide) ((O2 0 (by decide)).2 4) ?_
  refine x_inv (N := m_X12_about) (As := [.int (xs 1), .int (xs 2), .int (xs 3), .int (xs 4)]) (b := 125) (st := [.long (sp_about (xs 1) (xs 2) (xs 3) (xs 4))]) (d' := 100) (mc := 0) (ms := 0) (host := "") 12 rfl t_X12_about ⟨Or.inl q_13_140, i_X12_about.1, i_X12_about.2⟩ ⟨by decide, rfl⟩ (congrArg Prod.fst (F2.1 125 (12, 92) rfl rfl)) rfl (by decide) rfl rfl ⟨by decide, by decide⟩ (pm_about (xs 1) (xs 2) (xs 3) (xs 4) F2 O2 ?_)
  intro h3 O3
  show jX m_L_law 1300 600000 7302249 1532 [(3, .int 0), (2, .ref 125), (1, .ref 31), (0, .ref 0)] [.long (sp_about (xs 1) (xs 2) (xs 3) (xs 4)), .long (sp_about (xs 1) (xs 2) (xs 3) (xs 4))] _ 143 360892 _
  refine y_lcmp (v := 0) rfl (jlg_self _) ?_
  refine x_ifeq (tgt := 2887) rfl rfl (br_t (by decide) ?_)
  refine x_iinc (x := 0) (v := 7) (ls' := [(3, .int 7), (2, .ref 125), (1, .ref 31), (0, .ref 0)]) rfl rfl (by decide) rfl rfl ?_
  refine x_goto (tgt := 18) rfl rfl ?_
  refine x_iloadn (x := 7) rfl rfl ?_
  refine x_aloadn (x := 0) rfl rfl ?_
  refine y_alen (N := 7) (v := 7) rfl (O3 0 (by decide)).1 (by decide) (by decide) ?_
  refine x_bipush (v := 7) rfl kb_7 ?_
  refine y_isub (v := 0) rfl (by decide) ?_
  refine x_icgt (tgt := 2893) rfl rfl (br_t (by decide) ?_)
  refine x_iconst (v := 1) rfl ki_1 ?_
  refine x_zret rfl rfl (by first | decide | exact jp_01 _) ?_
  exact hQ _
set_option maxRecDepth 100000 in
set_option maxHeartbeats 40000000 in
theorem cs_fact {xs : Nat → Int32} {h : jH} {Q : Option Value → jH → Prop} (F : jFb 31 h) (O : jOl 7 xs h) (hQ : ∀ h', Q (some (.int 1)) h') : jX m_L_law 1300 600000 7302249 1538 [(3, .int 0), (2, .ref 125), (1, .ref 31), (0, .ref 0)] [] h 143 360892 Q := by
  refine x_aloadn (x := 31) rfl rfl ?_
  refine x_aloadn (x := 0) rfl rfl ?_
  refine x_iloadn (x := 0) rfl rfl ?_
  refine x_iconst (v := 1) rfl ki_1 ?_
  refine y_iadd (v := 1) rfl (by decide) ?_
  refine y_iald (v := xs 1) (N := 7) 1 rfl (O 0 (by decide)).1 (jinb_of (by decide)) (by decide) ((O 0 (by decide)).2 1) ?_
  refine x_aloadn (x := 0) rfl rfl ?_
  refine x_iloadn (x := 0) rfl rfl ?_
  refine x_iconst (v := 2) rfl ki_2 ?_
  refine y_iadd (v := 2) rfl (by decide) ?_
  refine y_iald (v := xs 2) (N := 7) 2 rfl (O 0 (by decide)).1 (jinb_of (by decide)) (by decide) ((O 0 (by decide)).2 2) ?_
  refine x_aloadn (x := 0) rfl rfl ?_
  refine x_iloadn (x := 0) rfl rfl ?_
  refine x_iconst (v := 3) rfl ki_3 ?_
  refine y_iadd (v := 3) rfl (by decide) ?_
  refine y_iald (v := xs 3) (N := 7) 3 rfl (O 0 (by decide)).1 (jinb_of (by decide)) (by decide) ((O 0 (by decide)).2 3) ?_
  refine x_aloadn (x := 0) rfl rfl ?_
  refine x_iloadn (x := 0) rfl rfl ?_
  refine x_iconst (v := 4) rfl ki_4 ?_
  refine y_iadd (v := 4) rfl (by decide) ?_
  refine y_iald (v := xs 4) (N := 7) 4 rfl (O 0 (by decide)).1 (jinb_of (by decide)) (by decide) ((O 0 (by decide)).2 4) ?_
  refine x_aloadn (x := 0) rfl rfl ?_
  refine x_iloadn (x := 0) rfl rfl ?_
  refine x_iconst (v := 5) rfl ki_5 ?_
  refine y_iadd (v := 5) rfl (by decide) ?_
  refine y_iald (v := xs 5) (N := 7) 5 rfl (O 0 (by decide)).1 (jinb_of (by decide)) (by decide) ((O 0 (by decide)).2 5) ?_
  refine x_aloadn (x := 0) rfl rfl ?_
  refine x_iloadn (x := 0) rfl rfl ?_
  refine x_bipush (v := 6) rfl kb_6 ?_
  refine y_iadd (v := 6) rfl (by decide) ?_
  refine y_iald (v := xs 6) (N := 7) 6 rfl (O 0 (by decide)).1 (jinb_of (by decide)) (by decide) ((O 0 (by decide)).2 6) ?_
  refine x_inv (N := m_X11_fact) (As := [.int (xs 1), .int (xs 2), .int (xs 3), .int (xs 4), .int (xs 5), .int (xs 6)]) (b := 31) (st := []) (d' := 100) (mc := 0) (ms := 0) (host := "") 11 rfl t_X11_fact ⟨Or.inl q_13_141, i_X11_fact.1, i_X11_fact.2⟩ ⟨by decide, rfl⟩ (congrArg Prod.fst (F.1 31 (11, 13) rfl rfl)) rfl (by decide) rfl rfl ⟨by decide, by decide⟩ (px_fact (xs 1) (xs 2) (xs 3) (xs 4) (xs 5) (xs 6) F O ?_)
  intro h2 F2 O2
  show jX m_L_law 1300 600000 7302249 1573 [(3, .int 0), (2, .ref 125), (1, .ref 31), (0, .ref 0)] [.int (sp_fact (xs 1) (xs 2) (xs 3) (xs 4) (xs 5) (xs 6))] _ 143 360892 _
  refine x_aloadn (x := 125) rfl rfl ?_
  refine x_aloadn (x := 0) rfl rfl ?_
  refine x_iloadn (x := 0) rfl rfl ?_
  refine x_iconst (v := 1) rfl ki_1 ?_
  refine y_iadd (v := 1) rfl (by decide) ?_
  refine y_iald (v := xs 1) (N := 7) 1 rfl (O2 0 (by decide)).1 (jinb_of (by decide)) (by decide) ((O2 0 (by decide)).2 1) ?_
  refine x_aloadn (x := 0) rfl rfl ?_
  refine x_iloadn (x := 0) rfl rfl ?_
  refine x_iconst (v := 2) rfl ki_2 ?_
  refine y_iadd (v := 2) rfl (by decide) ?_
  refine y_iald (v := xs 2) (N := 7) 2 rfl (O2 0 (by decide)).1 (jinb_of (by decide)) (by decide) ((O2 0 (by decide)).2 2) ?_
  refine x_aloadn (x := 0) rfl rfl ?_
  refine x_iloadn (x := 0) rfl rfl ?_
  refine x_iconst (v := 3) rfl ki_3 ?_
  refine y_iadd (v := 3) rfl (by decide) ?_
  refine y_iald (v := xs 3) (N := 7) 3 rfl (O2 0 (by decide)).1 (jinb_of (by decide)) (by decide) ((O2 0 (by decide)).2 3) ?_
  refine x_aloadn (x := 0) rfl rfl ?_
  refine x_iloadn (x := 0) rfl rfl ?_
  refine x_iconst (v := 4) rfl ki_4 ?_
  refine y_iadd (v := 4) rfl (by decide) ?_
  refine y_iald (v := xs 4) (N := 7) 4 rfl (O2 0 (by decide)).1 (jinb_of (by decide)) (by decide) ((O2 0 (by decide)).2 4) ?_
  refine x_aloadn (x := 0) rfl rfl ?_
  refine x_iloadn (x := 0) rfl rfl ?_
  refine x_iconst (v := 5) rfl ki_5 ?_
  refine y_iadd (v := 5) rfl (by decide) ?_
  refine y_iald (v := xs 5) (N := 7) 5 rfl (O2 0 (by decide)).1 (jinb_of (by decide)) (by decide) ((O2 0 (by decide)).2 5) ?_
  refine x_aloadn (x := 0) rfl rfl ?_
  refine x_iloadn (x := 0) rfl rfl ?_
  refine x_bipush (v := 6) rfl kb_6 ?_
  refine y_iadd (v := 6) rfl (by decide) ?_
  refine y_iald (v := xs 6) (N := 7) 6 rfl (O2 0 (by decide)).1 (jinb_of (by decide)) (by decide) ((O2 0 (by decide)).2 6) ?_
  refine x_inv (N := m_X12_fact) (As := [.int (xs 1), .int (xs 2), .int (xs 3), .int (xs 4), .int (xs 5), .int (xs 6)]) (b := 125) (st := [.int (sp_fact (xs 1) (xs 2) (xs 3) (xs 4) (xs 5) (xs 6))]) (d' := 100) (mc := 0) (ms := 0) (host := "") 12 rfl t_X12_fact ⟨Or.inl q_13_145, i_X12_fact.1, i_X12_fact.2⟩ ⟨by decide, rfl⟩ (congrArg Prod.fst (F2.1 125 (12, 92) rfl rfl)) rfl (by decide) rfl rfl ⟨by decide, by decide⟩ (pm_fact (xs 1) (xs 2) (xs 3) (xs 4) (xs 5) (xs 6) F2 O2 ?_)
  intro h3 O3
  show jX m_L_law 1300 600000 7302249 1608 [(3, .int 0), (2, .ref 125), (1, .ref 31), (0, .ref 0)] [.int (sp_fact (xs 1) (xs 2) (xs 3) (xs 4) (xs 5) (xs 6)), .int (sp_fact (xs 1) (xs 2) (xs 3) (xs 4) (xs 5) (xs 6))] _ 143 360892 _
  refine x_iceq (tgt := 2887) rfl rfl (br_t rfl ?_)
  refine x_iinc (x := 0) (v := 7) (ls' := [(3, .int 7), (2, .ref 125), (1, .ref 31), (0, .ref 0)]) rfl rfl (by decide) rfl rfl ?_
  refine x_goto (tgt := 18) rfl rfl ?_
  refine x_iloadn (x := 7) rfl rfl ?_
  refine x_aloadn (x := 0) rfl rfl ?_
  refine y_alen (N := 7) (v := 7) rfl (O3 0 (by decide)).1 (by decide) (by decide) ?_
  refine x_bipush (v := 7) rfl kb_7 ?_
  refine y_isub (v := 0) rfl (by decide) ?_
  refine x_icgt (tgt := 2893) rfl rfl (br_t (by decide) ?_)
  refine x_iconst (v := 1) rfl ki_1 ?_
  refine x_zret rfl rfl (by first | decide | exact jp_01 _) ?_
  exact hQ _
set_option maxRecDepth 100000 in
set_option maxHeartbeats 40000000 in
theorem cs_belong {xs : Nat → Int32} {h : jH} {Q : Option Value → jH → Prop} (F : jFb 31 h) (O : jOl 7 xs h) (hQ : ∀ h', Q (some (.int 1)) h') : jX m_L_law 1300 600000 7302249 1613 [(3, .int 0), (2, .ref 125), (1, .ref 31), (0, .ref 0)] [] h 143 360892 Q := by
  refine x_aloadn (x := 31) rfl rfl ?_
  refine x_aloadn (x := 0) rfl rfl ?_
  refine x_iloadn (x := 0) rfl rfl ?_
  refine x_iconst (v := 1) rfl ki_1 ?_
  refine y_iadd (v := 1) rfl (by decide) ?_
  refine y_iald (v := xs 1) (N := 7) 1 rfl (O 0 (by decide)).1 (jinb_of (by decide)) (by decide) ((O 0 (by decide)).2 1) ?_
  refine x_aloadn (x := 0) rfl rfl ?_
  refine x_iloadn (x := 0) rfl rfl ?_
  refine x_iconst (v := 2) rfl ki_2 ?_
  refine y_iadd (v := 2) rfl (by decide) ?_
  refine y_iald (v := xs 2) (N := 7) 2 rfl (O 0 (by decide)).1 (jinb_of (by decide)) (by decide) ((O 0 (by decide)).2 2) ?_
  refine x_aloadn (x := 0) rfl rfl ?_
  refine x_iloadn (x := 0) rfl rfl ?_
  refine x_iconst (v := 3) rfl ki_3 ?_
  refine y_iadd (v := 3) rfl (by decide) ?_
  refine y_iald (v := xs 3) (N := 7) 3 rfl (O 0 (by decide)).1 (jinb_of (by decide)) (by decide) ((O 0 (by decide)).2 3) ?_
  refine x_aloadn (x := 0) rfl rfl ?_
  refine x_iloadn (x := 0) rfl rfl ?_
  refine x_iconst (v := 4) rfl ki_4 ?_
  refine y_iadd (v := 4) rfl (by decide) ?_
  refine y_iald (v := xs 4) (N := 7) 4 rfl (O 0 (by decide)).1 (jinb_of (by decide)) (by decide) ((O 0 (by decide)).2 4) ?_
  refine x_inv (N := m_X11_belong) (As := [.int (xs 1), .int (xs 2), .int (xs 3), .int (xs 4)]) (b := 31) (st := []) (d' := 100) (mc := 0) (ms := 0) (host := "") 11 rfl t_X11_belong ⟨Or.inl q_13_146, i_X11_belong.1, i_X11_belong.2⟩ ⟨by decide, rfl⟩ (congrArg Prod.fst (F.1 31 (11, 13) rfl rfl)) rfl (by decide) rfl rfl ⟨by decide, by decide⟩ (px_belong (xs 1) (xs 2) (xs 3) (xs 4) F O ?_)
  intro h2 F2 O2
  show jX m_L_law 1300 600000 7302249 1637 [(3, .int 0), (2, .ref 125), (1, .ref 31), (0, .ref 0)] [.int (sp_belong (xs 1) (xs 2) (xs 3) (xs 4))] _ 143 360892 _
  refine x_aloadn (x := 125) rfl rfl ?_
  refine x_aloadn (x := 0) rfl rfl ?_
  refine x_iloadn (x := 0) rfl rfl ?_
  refine x_iconst (v := 1) rfl ki_1 ?_
  refine y_iadd (v := 1) rfl (by decide) ?_
  refine y_iald (v := xs 1) (N := 7) 1 rfl (O2 0 (by decide)).1 (jinb_of (by decide)) (by decide) ((O2 0 (by decide)).2 1) ?_
  refine x_aloadn (x := 0) rfl rfl ?_
  refine x_iloadn (x := 0) rfl rfl ?_
  refine x_iconst (v := 2) rfl ki_2 ?_
  refine y_iadd (v := 2) rfl (by decide) ?_
  refine y_iald (v := xs 2) (N := 7) 2 rfl (O2 0 (by decide)).1 (jinb_of (by decide)) (by decide) ((O2 0 (by decide)).2 2) ?_
  refine x_aloadn (x := 0) rfl rfl ?_
  refine x_iloadn (x := 0) rfl rfl ?_
  refine x_iconst (v := 3) rfl ki_3 ?_
  refine y_iadd (v := 3) rfl (by decide) ?_
  refine y_iald (v := xs 3) (N := 7) 3 rfl (O2 0 (by decide)).1 (jinb_of (by decide)) (by decide) ((O2 0 (by decide)).2 3) ?_
  refine x_aloadn (x := 0) rfl rfl ?_
  refine x_iloadn (x := 0) rfl rfl ?_
  refine x_iconst (v := 4) rfl ki_4 ?_
  refine y_iadd (v := 4) rfl (by decide) ?_
  refine y_iald (v := xs 4) (N := 7) 4 rfl (O2 0 (by decide)).1 (jinb_of (by decide)) (by decide) ((O2 0 (by decide)).2 4) ?_
  refine x_inv (N := m_X12_belong) (As := [.int (xs 1), .int (xs 2), .int (xs 3), .int (xs 4)]) (b := 125) (st := [.int (sp_belong (xs 1) (xs 2) (xs 3) (xs 4))]) (d' := 100) (mc := 0) (ms := 0) (host := "") 12 rfl t_X12_belong ⟨Or.inl q_13_149, i_X12_belong.1, i_X12_belong.2⟩ ⟨by decide, rfl⟩ (congrArg Prod.fst (F2.1 125 (12, 92) rfl rfl)) rfl (by decide) rfl rfl ⟨by decide, by decide⟩ (pm_belong (xs 1) (xs 2) (xs 3) (xs 4) F2 O2 ?_)
  intro h3 O3
  show jX m_L_law 1300 600000 7302249 1661 [(3, .int 0), (2, .ref 125), (1, .ref 31), (0, .ref 0)] [.int (sp_belong (xs 1) (xs 2) (xs 3) (xs 4)), .int (sp_belong (xs 1) (xs 2) (xs 3) (xs 4))] _ 143 360892 _
  refine x_iceq (tgt := 2887) rfl rfl (br_t rfl ?_)
  refine x_iinc (x := 0) (v := 7) (ls' := [(3, .int 7), (2, .ref 125), (1, .ref 31), (0, .ref 0)]) rfl rfl (by decide) rfl rfl ?_
  refine x_goto (tgt := 18) rfl rfl ?_
  refine x_iloadn (x := 7) rfl rfl ?_
  refine x_aloadn (x := 0) rfl rfl ?_
  refine y_alen (N := 7) (v := 7) rfl (O3 0 (by decide)).1 (by decide) (by decide) ?_
  refine x_bipush (v := 7) rfl kb_7 ?_
  refine y_isub (v := 0) rfl (by decide) ?_
  refine x_icgt (tgt := 2893) rfl rfl (br_t (by decide) ?_)
  refine x_iconst (v := 1) rfl ki_1 ?_
  refine x_zret rfl rfl (by first | decide | exact jp_01 _) ?_
  exact hQ _
set_option maxRecDepth 100000 in
set_option maxHeartbeats 40000000 in
theorem cs_order {xs : Nat → Int32} {h : jH} {Q : Option Value → jH → Prop} (F : jFb 31 h) (O : jOl 7 xs h) (hQ : ∀ h', Q (some (.int 1)) h') : jX m_L_law 1300 600000 7302249 1666 [(3, .int 0), (2, .ref 125), (1, .ref 31), (0, .ref 0)] [] h 143 360892 Q := by
  refine x_aloadn (x := 31) rfl rfl ?_
  refine x_aloadn (x := 0) rfl rfl ?_
  refine x_iloadn (x := 0) rfl rfl ?_
  refine x_iconst (v := 1) rfl ki_1 ?_
  refine y_iadd (v := 1) rfl (by decide) ?_
  refine y_iald (v := xs 1) (N := 7) 1 rfl (O 0 (by decide)).1 (jinb_of (by decide)) (by decide) ((O 0 (by decide)).2 1) ?_
  refine x_aloadn (x := 0) rfl rfl ?_
  refine x_iloadn (x := 0) rfl rfl ?_
  refine x_iconst (v := 2) rfl ki_2 ?_
  refine y_iadd (v := 2) rfl (by decide) ?_
  refine y_iald (v := xs 2) (N := 7) 2 rfl (O 0 (by decide)).1 (jinb_of (by decide)) (by decide) ((O 0 (by decide)).2 2) ?_
  refine x_aloadn (x := 0) rfl rfl ?_
  refine x_iloadn (x := 0) rfl rfl ?_
  refine x_iconst (v := 3) rfl ki_3 ?_
  refine y_iadd (v := 3) rfl (by decide) ?_
  refine y_iald (v := xs 3) (N := 7) 3 rfl (O 0 (by decide)).1 (jinb_of (by decide)) (by decide) ((O 0 (by decide)).2 3) ?_
  refine x_inv (N := m_X11_order) (As := [.int (xs 1), .int (xs 2), .int (xs 3)]) (b := 31) (st := []) (d' := 100) (mc := 0) (ms := 0) (host := "") 11 rfl t_X11_order ⟨Or.inl q_13_150, i_X11_order.1, i_X11_order.2⟩ ⟨by decide, rfl⟩ (congrArg Prod.fst (F.1 31 (11, 13) rfl rfl)) rfl (by decide) rfl rfl ⟨by decide, by decide⟩ (px_order (xs 1) (xs 2) (xs 3) F O ?_)
  intro h2 F2 O2
  show jX m_L_law 1300 600000 7302249 1685 [(3, .int 0), (2, .ref 125), (1, .ref 31), (0, .ref 0)] [.int (sp_order (xs 1) (xs 2) (xs 3))] _ 143 360892 _
  refine x_aloadn (x := 125) rfl rfl ?_
  refine x_aloadn (x := 0) rfl rfl ?_
  refine x_iloadn (x := 0) rfl rfl ?_
  refine x_iconst (v := 1) rfl ki_1 ?_
  refine y_iadd (v := 1) rfl (by decide) ?_
  refine y_iald (v := xs 1) (N := 7) 1 rfl (O2 0 (by decide)).1 (jinb_of (by decide)) (by decide) ((O2 0 (by decide)).2 1) ?_
  refine x_aloadn (x := 0) rfl rfl ?_
  refine x_iloadn (x := 0) rfl rfl ?_
  refine x_iconst (v := 2) rfl ki_2 ?_
  refine y_iadd (v := 2) rfl (by decide) ?_
  refine y_iald (v := xs 2) (N := 7) 2 rfl (O2 0 (by decide)).1 (jinb_of (by decide)) (by decide) ((O2 0 (by decide)).2 2) ?_
  refine x_aloadn (x := 0) rfl rfl ?_
  refine x_iloadn (x := 0) rfl rfl ?_
  refine x_iconst (v := 3) rfl ki_3 ?_
  refine y_iadd (v := 3) rfl (by decide) ?_
  refine y_iald (v := xs 3) (N := 7) 3 rfl (O2 0 (by decide)).1 (jinb_of (by decide)) (by decide) ((O2 0 (by decide)).2 3) ?_
  refine x_inv (N := m_X12_order) (As := [.int (xs 1), .int (xs 2), .int (xs 3)]) (b := 125) (st := [.int (sp_order (xs 1) (xs 2) (xs 3))]) (d' := 100) (mc := 0) (ms := 0) (host := "") 12 rfl t_X12_order ⟨Or.inl q_13_153, i_X12_order.1, i_X12_order.2⟩ ⟨by decide, rfl⟩ (congrArg Prod.fst (F2.1 125 (12, 92) rfl rfl)) rfl (by decide) rfl rfl ⟨by decide, by decide⟩ (pm_order (xs 1) (xs 2) (xs 3) F2 O2 ?_)
  intro h3 O3
  show jX m_L_law 1300 600000 7302249 1704 [(3, .int 0), (2, .ref 125), (1, .ref 31), (0, .ref 0)] [.int (sp_order (xs 1) (xs 2) (xs 3)), .int (sp_order (xs 1) (xs 2) (xs 3))] _ 143 360892 _
  refine x_iceq (tgt := 2887) rfl rfl (br_t rfl ?_)
  refine x_iinc (x := 0) (v := 7) (ls' := [(3, .int 7), (2, .ref 125), (1, .ref 31), (0, .ref 0)]) rfl rfl (by decide) rfl rfl ?_
  refine x_goto (tgt := 18) rfl rfl ?_
  refine x_iloadn (x := 7) rfl rfl ?_
  refine x_aloadn (x := 0) rfl rfl ?_
  refine y_alen (N := 7) (v := 7) rfl (O3 0 (by decide)).1 (by decide) (by decide) ?_
  refine x_bipush (v := 7) rfl kb_7 ?_
  refine y_isub (v := 0) rfl (by decide) ?_
  refine x_icgt (tgt := 2893) rfl rfl (br_t (by decide) ?_)
  refine x_iconst (v := 1) rfl ki_1 ?_
  refine x_zret rfl rfl (by first | decide | exact jp_01 _) ?_
  exact hQ _
set_option maxRecDepth 100000 in
set_option maxHeartbeats 40000000 in
theorem cs_appeal {xs : Nat → Int32} {h : jH} {Q : Option Value → jH → Prop} (F : jFb 31 h) (O : jOl 7 xs h) (hQ : ∀ h', Q (some (.int 1)) h') : jX m_L_law 1300 600000 7302249 1709 [(3, .int 0), (2, .ref 125), (1, .ref 31), (0, .ref 0)] [] h 143 360892 Q := by
  refine x_aloadn (x := 31) rfl rfl ?_
  refine x_aloadn (x := 0) rfl rfl ?_
  refine x_iloadn (x := 0) rfl rfl ?_
  refine x_iconst (v := 1) rfl ki_1 ?_
  refine y_iadd (v := 1) rfl (by decide) ?_
  refine y_iald (v := xs 1) (N := 7) 1 rfl (O 0 (by decide)).1 (jinb_of (by decide)) (by decide) ((O 0 (by decide)).2 1) ?_
  refine x_aloadn (x := 0) rfl rfl ?_
  refine x_iloadn (x := 0) rfl rfl ?_
  refine x_iconst (v := 2) rfl ki_2 ?_
  refine y_iadd (v := 2) rfl (by decide) ?_
  refine y_iald (v := xs 2) (N := 7) 2 rfl (O 0 (by decide)).1 (jinb_of (by decide)) (by decide) ((O 0 (by decide)).2 2) ?_
  refine x_aloadn (x := 0) rfl rfl ?_
  refine x_iloadn (x := 0) rfl rfl ?_
  refine x_iconst (v := 3) rfl ki_3 ?_
  refine y_iadd (v := 3) rfl (by decide) ?_
  refine y_iald (v := xs 3) (N := 7) 3 rfl (O 0 (by decide)).1 (jinb_of (by decide)) (by decide) ((O 0 (by decide)).2 3) ?_
  refine x_inv (N := m_X11_appeal) (As := [.int (xs 1), .int (xs 2), .int (xs 3)]) (b := 31) (st := []) (d' := 100) (mc := 0) (ms := 0) (host := "") 11 rfl t_X11_appeal ⟨Or.inl q_13_154, i_X11_appeal.1, i_X11_appeal.2⟩ ⟨by decide, rfl⟩ (congrArg Prod.fst (F.1 31 (11, 13) rfl rfl)) rfl (by decide) rfl rfl ⟨by decide, by decide⟩ (px_appeal (xs 1) (xs 2) (xs 3) F O ?_)
  intro h2 F2 O2
  show jX m_L_law 1300 600000 7302249 1728 [(3, .int 0), (2, .ref 125), (1, .ref 31), (0, .ref 0)] [.int (sp_appeal (xs 1) (xs 2) (xs 3))] _ 143 360892 _
  refine x_aloadn (x := 125) rfl rfl ?_
  refine x_aloadn (x := 0) rfl rfl ?_
  refine x_iloadn (x := 0) rfl rfl ?_
  refine x_iconst (v := 1) rfl ki_1 ?_
  refine y_iadd (v := 1) rfl (by decide) ?_
  refine y_iald (v := xs 1) (N := 7) 1 rfl (O2 0 (by decide)).1 (jinb_of (by decide)) (by decide) ((O2 0 (by decide)).2 1) ?_
  refine x_aloadn (x := 0) rfl rfl ?_
  refine x_iloadn (x := 0) rfl rfl ?_
  refine x_iconst (v := 2) rfl ki_2 ?_
  refine y_iadd (v := 2) rfl (by decide) ?_
  refine y_iald (v := xs 2) (N := 7) 2 rfl (O2 0 (by decide)).1 (jinb_of (by decide)) (by decide) ((O2 0 (by decide)).2 2) ?_
  refine x_aloadn (x := 0) rfl rfl ?_
  refine x_iloadn (x := 0) rfl rfl ?_
  refine x_iconst (v := 3) rfl ki_3 ?_
  refine y_iadd (v := 3) rfl (by decide) ?_
  refine y_iald (v := xs 3) (N := 7) 3 rfl (O2 0 (by decide)).1 (jinb_of (by decide)) (by decide) ((O2 0 (by decide)).2 3) ?_
  refine x_inv (N := m_X12_appeal) (As := [.int (xs 1), .int (xs 2), .int (xs 3)]) (b := 125) (st := [.int (sp_appeal (xs 1) (xs 2) (xs 3))]) (d' := 100) (mc := 0) (ms := 0) (host := "") 12 rfl t_X12_appeal ⟨Or.inl q_13_157, i_X12_appeal.1, i_X12_appeal.2⟩ ⟨by decide, rfl⟩ (congrArg Prod.fst (F2.1 125 (12, 92) rfl rfl)) rfl (by decide) rfl rfl ⟨by decide, by decide⟩ (pm_appeal (xs 1) (xs 2) (xs 3) F2 O2 ?_)
  intro h3 O3
  show jX m_L_law 1300 600000 7302249 1747 [(3, .int 0), (2, .ref 125), (1, .ref 31), (0, .ref 0)] [.int (sp_appeal (xs 1) (xs 2) (xs 3)), .int (sp_appeal (xs 1) (xs 2) (xs 3))] _ 143 360892 _
  refine x_iceq (tgt := 2887) rfl rfl (br_t rfl ?_)
  refine x_iinc (x := 0) (v := 7) (ls' := [(3, .int 7), (2, .ref 125), (1, .ref 31), (0, .ref 0)]) rfl rfl (by decide) rfl rfl ?_
  refine x_goto (tgt := 18) rfl rfl ?_
  refine x_iloadn (x := 7) rfl rfl ?_
  refine x_aloadn (x := 0) rfl rfl ?_
  refine y_alen (N := 7) (v := 7) rfl (O3 0 (by decide)).1 (by decide) (by decide) ?_
  refine x_bipush (v := 7) rfl kb_7 ?_
  refine y_isub (v := 0) rfl (by decide) ?_
  refine x_icgt (tgt := 2893) rfl rfl (br_t (by decide) ?_)
  refine x_iconst (v := 1) rfl ki_1 ?_
  refine x_zret rfl rfl (by first | decide | exact jp_01 _) ?_
  exact hQ _
set_option maxRecDepth 100000 in
set_option maxHeartbeats 40000000 in
theorem cs_holding {xs : Nat → Int32} {h : jH} {Q : Option Value → jH → Prop} (F : jFb 31 h) (O : jOl 7 xs h) (hQ : ∀ h', Q (some (.int 1)) h') : jX m_L_law 1300 600000 7302249 1752 [(3, .int 0), (2, .ref 125), (1, .ref 31), (0, .ref 0)] [] h 143 360892 Q := by
  refine x_aloadn (x := 31) rfl rfl ?_
  refine x_inv (N := m_X11_holding) (As := []) (b := 31) (st := []) (d' := 100) (mc := 0) (ms := 0) (host := "") 11 rfl t_X11_holding ⟨Or.inl q_13_158, i_X11_holding.1, i_X11_holding.2⟩ ⟨by decide, rfl⟩ (congrArg Prod.fst (F.1 31 (11, 13) rfl rfl)) rfl (by decide) rfl rfl ⟨by decide, by decide⟩ (px_holding  F O ?_)
  intro h2 F2 O2
  show jX m_L_law 1300 600000 7302249 1756 [(3, .int 0), (2, .ref 125), (1, .ref 31), (0, .ref 0)] [.int sp_holding] _ 143 360892 _
  refine x_aloadn (x := 125) rfl rfl ?_
  refine x_inv (N := m_X12_holding) (As := []) (b := 125) (st := [.int sp_holding]) (d' := 100) (mc := 0) (ms := 0) (host := "") 12 rfl t_X12_holding ⟨Or.inl q_13_161, i_X12_holding.1, i_X12_holding.2⟩ ⟨by decide, rfl⟩ (congrArg Prod.fst (F2.1 125 (12, 92) rfl rfl)) rfl (by decide) rfl rfl ⟨by decide, by decide⟩ (pm_holding  F2 O2 ?_)
  intro h3 O3
  show jX m_L_law 1300 600000 7302249 1760 [(3, .int 0), (2, .ref 125), (1, .ref 31), (0, .ref 0)] [.int sp_holding, .int sp_holding] _ 143 360892 _
  refine x_iceq (tgt := 2887) rfl rfl (br_t rfl ?_)
  refine x_iinc (x := 0) (v := 7) (ls' := [(3, .int 7), (2, .ref 125), (1, .ref 31), (0, .ref 0)]) rfl rfl (by decide) rfl rfl ?_
  refine x_goto (tgt := 18) rfl rfl ?_
  refine x_iloadn (x := 7) rfl rfl ?_
  refine x_aloadn (x := 0) rfl rfl ?_
  refine y_alen (N := 7) (v := 7) rfl (O3 0 (by decide)).1 (by decide) (by decide) ?_
  refine x_bipush (v := 7) rfl kb_7 ?_
  refine y_isub (v := 0) rfl (by decide) ?_
  refine x_icgt (tgt := 2893) rfl rfl (br_t (by decide) ?_)
  refine x_iconst (v := 1) rfl ki_1 ?_
  refine x_zret rfl rfl (by first | decide | exact jp_01 _) ?_
  exact hQ _
set_option maxRecDepth 100000 in
set_option maxHeartbeats 40000000 in
theorem cs_value {xs : Nat → Int32} {h : jH} {Q : Option Value → jH → Prop} (F : jFb 31 h) (O : jOl 7 xs h) (hQ : ∀ h', Q (some (.int 1)) h') : jX m_L_law 1300 600000 7302249 1765 [(3, .int 0), (2, .ref 125), (1, .ref 31), (0, .ref 0)] [] h 143 360892 Q := by
  refine x_aloadn (x := 31) rfl rfl ?_
  refine x_aloadn (x := 0) rfl rfl ?_
  refine x_iloadn (x := 0) rfl rfl ?_
  refine x_iconst (v := 1) rfl ki_1 ?_
  refine y_iadd (v := 1) rfl (by decide) ?_
  refine y_iald (v := xs 1) (N := 7) 1 rfl (O 0 (by decide)).1 (jinb_of (by decide)) (by decide) ((O 0 (by decide)).2 1) ?_
  refine x_aloadn (x := 0) rfl rfl ?_
  refine x_iloadn (x := 0) rfl rfl ?_
  refine x_iconst (v := 2) rfl ki_2 ?_
  refine y_iadd (v := 2) rfl (by decide) ?_
  refine y_iald (v := xs 2) (N := 7) 2 rfl (O 0 (by decide)).1 (jinb_of (by decide)) (by decide) ((O 0 (by decide)).2 2) ?_
  refine x_aloadn (x := 0) rfl rfl ?_
  refine x_iloadn (x := 0) rfl rfl ?_
  refine x_iconst (v := 3) rfl ki_3 ?_
  refine y_iadd (v := 3) rfl (by decide) ?_
  refine y_iald (v := xs 3) (N := 7) 3 rfl (O 0 (by decide)).1 (jinb_of (by decide)) (by decide) ((O 0 (by decide)).2 3) ?_
  refine x_aloadn (x := 0) rfl rfl ?_
  refine x_iloadn (x := 0) rfl rfl ?_
  refine x_iconst (v := 4) rfl ki_4 ?_
  refine y_iadd (v := 4) rfl (by decide) ?_
  refine y_iald (v := xs 4) (N := 7) 4 rfl (O 0 (by decide)).1 (jinb_of (by decide)) (by decide) ((O 0 (by decide)).2 4) ?_
  refine x_inv (N := m_X11_value) (As := [.int (xs 1), .int (xs 2), .int (xs 3), .int (xs 4)]) (b := 31) (st := []) (d' := 100) (mc := 0) (ms := 0) (host := "") 11 rfl t_X11_value ⟨Or.inl q_13_162, i_X11_value.1, i_X11_value.2⟩ ⟨by decide, rfl⟩ (congrArg Prod.fst (F.1 31 (11, 13) rfl rfl)) rfl (by decide) rfl rfl ⟨by decide, by decide⟩ (px_value (xs 1) (xs 2) (xs 3) (xs 4) F O ?_)
  intro h2 F2 O2
  show jX m_L_law 1300 600000 7302249 1789 [(3, .int 0), (2, .ref 125), (1, .ref 31), (0, .ref 0)] [.int (sp_value (xs 1) (xs 2) (xs 3) (xs 4))] _ 143 360892 _
  refine x_aloadn (x := 125) rfl rfl ?_
  refine x_aloadn (x := 0) rfl rfl ?_
  refine x_iloadn (x := 0) rfl rfl ?_
  refine x_iconst (v := 1) rfl ki_1 ?_
  refine y_iadd (v := 1) rfl (by decide) ?_
  refine y_iald (v := xs 1) (N := 7) 1 rfl (O2 0 (by decide)).1 (jinb_of (by decide)) (by decide) ((O2 0 (by decide)).2 1) ?_
  refine x_aloadn (x := 0) rfl rfl ?_
  refine x_iloadn (x := 0) rfl rfl ?_
  refine x_iconst (v := 2) rfl ki_2 ?_
  refine y_iadd (v := 2) rfl (by decide) ?_
  refine y_iald (v := xs 2) (N := 7) 2 rfl (O2 0 (by decide)).1 (jinb_of (by decide)) (by decide) ((O2 0 (by decide)).2 2) ?_
  refine x_aloadn (x := 0) rfl rfl ?_
  refine x_iloadn (x := 0) rfl rfl ?_
  refine x_iconst (v := 3) rfl ki_3 ?_
  refine y_iadd (v := 3) rfl (by decide) ?_
  refine y_iald (v := xs 3) (N := 7) 3 rfl (O2 0 (by decide)).1 (jinb_of (by decide)) (by decide) ((O2 0 (by decide)).2 3) ?_
  refine x_aloadn (x := 0) rfl rfl ?_
  refine x_iloadn (x := 0) rfl rfl ?_
  refine x_iconst (v := 4) rfl ki_4 ?_
  refine y_iadd (v := 4) rfl (by decide) ?_
  refine y_iald (v := xs 4) (N := 7) 4 rfl (O2 0 (by decide)).1 (jinb_of (by decide)) (by decide) ((O2 0 (by decide)).2 4) ?_
  refine x_inv (N := m_X12_value) (As := [.int (xs 1), .int (xs 2), .int (xs 3), .int (xs 4)]) (b := 125) (st := [.int (sp_value (xs 1) (xs 2) (xs 3) (xs 4))]) (d' := 100) (mc := 0) (ms := 0) (host := "") 12 rfl t_X12_value ⟨Or.inl q_13_165, i_X12_value.1, i_X12_value.2⟩ ⟨by decide, rfl⟩ (congrArg Prod.fst (F2.1 125 (12, 92) rfl rfl)) rfl (by decide) rfl rfl ⟨by decide, by decide⟩ (pm_value (xs 1) (xs 2) (xs 3) (xs 4) F2 O2 ?_)
  intro h3 O3
  show jX m_L_law 1300 600000 7302249 1813 [(3, .int 0), (2, .ref 125), (1, .ref 31), (0, .ref 0)] [.int (sp_value (xs 1) (xs 2) (xs 3) (xs 4)), .int (sp_value (xs 1) (xs 2) (xs 3) (xs 4))] _ 143 360892 _
  refine x_iceq (tgt := 2887) rfl rfl (br_t rfl ?_)
  refine x_iinc (x := 0) (v := 7) (ls' := [(3, .int 7), (2, .ref 125), (1, .ref 31), (0, .ref 0)]) rfl rfl (by decide) rfl rfl ?_
  refine x_goto (tgt := 18) rfl rfl ?_
  refine x_iloadn (x := 7) rfl rfl ?_
  refine x_aloadn (x := 0) rfl rfl ?_
  refine y_alen (N := 7) (v := 7) rfl (O3 0 (by decide)).1 (by decide) (by decide) ?_
  refine x_bipush (v := 7) rfl kb_7 ?_
  refine y_isub (v := 0) rfl (by decide) ?_
  refine x_icgt (tgt := 2893) rfl rfl (br_t (by decide) ?_)
  refine x_iconst (v := 1) rfl ki_1 ?_
  refine x_zret rfl rfl (by first | decide | exact jp_01 _) ?_
  exact hQ _
set_option maxRecDepth 100000 in
set_option maxHeartbeats 40000000 in
theorem cs_split {xs : Nat → Int32} {h : jH} {Q : Option Value → jH → Prop} (F : jFb 31 h) (O : jOl 7 xs h) (hQ : ∀ h', Q (some (.int 1)) h') : jX m_L_law 1300 600000 7302249 1818 [(3, .int 0), (2, .ref 125), (1, .ref 31), (0, .ref 0)] [] h 143 360892 Q := by
  refine x_aloadn (x := 31) rfl rfl ?_
  refine x_aloadn (x := 0) rfl rfl ?_
  refine x_iloadn (x := 0) rfl rfl ?_
  refine x_iconst (v := 1) rfl ki_1 ?_
  refine y_iadd (v := 1) rfl (by decide) ?_
  refine y_iald (v := xs 1) (N := 7) 1 rfl (O 0 (by decide)).1 (jinb_of (by decide)) (by decide) ((O 0 (by decide)).2 1) ?_
  refine x_aloadn (x := 0) rfl rfl ?_
  refine x_iloadn (x := 0) rfl rfl ?_
  refine x_iconst (v := 2) rfl ki_2 ?_
  refine y_iadd (v := 2) rfl (by decide) ?_
  refine y_iald (v := xs 2) (N := 7) 2 rfl (O 0 (by decide)).1 (jinb_of (by decide)) (by decide) ((O 0 (by decide)).2 2) ?_
  refine x_aloadn (x := 0) rfl rfl ?_
  refine x_iloadn (x := 0) rfl rfl ?_
  refine x_iconst (v := 3) rfl ki_3 ?_
  refine y_iadd (v := 3) rfl (by decide) ?_
  refine y_iald (v := xs 3) (N := 7) 3 rfl (O 0 (by decide)).1 (jinb_of (by decide)) (by decide) ((O 0 (by decide)).2 3) ?_
  refine x_aloadn (x := 0) rfl rfl ?_
  refine x_iloadn (x := 0) rfl rfl ?_
  refine x_iconst (v := 4) rfl ki_4 ?_
  refine y_iadd (v := 4) rfl (by decide) ?_
  refine y_iald (v := xs 4) (N := 7) 4 rfl (O 0 (by decide)).1 (jinb_of (by decide)) (by decide) ((O 0 (by decide)).2 4) ?_
  refine x_aloadn (x := 0) rfl rfl ?_
  refine x_iloadn (x := 0) rfl rfl ?_
  refine x_iconst (v := 5) rfl ki_5 ?_
  refine y_iadd (v := 5) rfl (by decide) ?_
  refine y_iald (v := xs 5) (N := 7) 5 rfl (O 0 (by decide)).1 (jinb_of (by decide)) (by decide) ((O 0 (by decide)).2 5) ?_
  refine x_inv (N := m_X11_split) (As := [.int (xs 1), .int (xs 2), .int (xs 3), .int (xs 4), .int (xs 5)]) (b := 31) (st := []) (d' := 100) (mc := 0) (ms := 0) (host := "") 11 rfl t_X11_split ⟨Or.inl q_13_166, i_X11_split.1, i_X11_split.2⟩ ⟨by decide, rfl⟩ (congrArg Prod.fst (F.1 31 (11, 13) rfl rfl)) rfl (by decide) rfl rfl ⟨by decide, by decide⟩ (px_split (xs 1) (xs 2) (xs 3) (xs 4) (xs 5) F O ?_)
  intro h2 F2 O2
  show jX m_L_law 1300 600000 7302249 1847 [(3, .int 0), (2, .ref 125), (1, .ref 31), (0, .ref 0)] [.int (sp_split (xs 1) (xs 2) (xs 3) (xs 4) (xs 5))] _ 143 360892 _
  refine x_aloadn (x := 125) rfl rfl ?_
  refine x_aloadn (x := 0) rfl rfl ?_
  refine x_iloadn (x := 0) rfl rfl ?_
  refine x_iconst (v := 1) rfl ki_1 ?_
  refine y_iadd (v := 1) rfl (by decide) ?_
  refine y_iald (v := xs 1) (N := 7) 1 rfl (O2 0 (by decide)).1 (jinb_of (by decide)) (by decide) ((O2 0 (by decide)).2 1) ?_
  refine x_aloadn (x := 0) rfl rfl ?_
  refine x_iloadn (x := 0) rfl rfl ?_
  refine x_iconst (v := 2) rfl ki_2 ?_
  refine y_iadd (v := 2) rfl (by decide) ?_
  refine y_iald (v := xs 2) (N := 7) 2 rfl (O2 0 (by decide)).1 (jinb_of (by decide)) (by decide) ((O2 0 (by decide)).2 2) ?_
  refine x_aloadn (x := 0) rfl rfl ?_
  refine x_iloadn (x := 0) rfl rfl ?_
  refine x_iconst (v := 3) rfl ki_3 ?_
  refine y_iadd (v := 3) rfl (by decide) ?_
  refine y_iald (v := xs 3) (N := 7) 3 rfl (O2 0 (by decide)).1 (jinb_of (by decide)) (by decide) ((O2 0 (by decide)).2 3) ?_
  refine x_aloadn (x := 0) rfl rfl ?_
  refine x_iloadn (x := 0) rfl rfl ?_
  refine x_iconst (v := 4) rfl ki_4 ?_
  refine y_iadd (v := 4) rfl (by decide) ?_
  refine y_iald (v := xs 4) (N := 7) 4 rfl (O2 0 (by decide)).1 (jinb_of (by decide)) (by decide) ((O2 0 (by decide)).2 4) ?_
  refine x_aloadn (x := 0) rfl rfl ?_
  refine x_iloadn (x := 0) rfl rfl ?_
  refine x_iconst (v := 5) rfl ki_5 ?_
  refine y_iadd (v := 5) rfl (by decide) ?_
  refine y_iald (v := xs 5) (N := 7) 5 rfl (O2 0 (by decide)).1 (jinb_of (by decide)) (by decide) ((O2 0 (by decide)).2 5) ?_
  refine x_inv (N := m_X12_split) (As := [.int (xs 1), .int (xs 2), .int (xs 3), .int (xs 4), .int (xs 5)]) (b := 125) (st := [.int (sp_split (xs 1) (xs 2) (xs 3) (xs 4) (xs 5))]) (d' := 100) (mc := 0) (ms := 0) (host := "") 12 rfl t_X12_split ⟨Or.inl q_13_169, i_X12_split.1, i_X12_split.2⟩ ⟨by decide, rfl⟩ (congrArg Prod.fst (F2.1 125 (12, 92) rfl rfl)) rfl (by decide) rfl rfl ⟨by decide, by decide⟩ (pm_split (xs 1) (xs 2) (xs 3) (xs 4) (xs 5) F2 O2 ?_)
  intro h3 O3
  show jX m_L_law 1300 600000 7302249 1876 [(3, .int 0), (2, .ref 125), (1, .ref 31), (0, .ref 0)] [.int (sp_split (xs 1) (xs 2) (xs 3) (xs 4) (xs 5)), .int (sp_split (xs 1) (xs 2) (xs 3) (xs 4) (xs 5))] _ 143 360892 _
  refine x_iceq (tgt := 2887) rfl rfl (br_t rfl ?_)
  refine x_iinc (x := 0) (v := 7) (ls' := [(3, .int 7), (2, .ref 125), (1, .ref 31), (0, .ref 0)]) rfl rfl (by decide) rfl rfl ?_
  refine x_goto (tgt := 18) rfl rfl ?_
  refine x_iloadn (x := 7) rfl rfl ?_
  refine x_aloadn (x := 0) rfl rfl ?_
  refine y_alen (N := 7) (v := 7) rfl (O3 0 (by decide)).1 (by decide) (by decide) ?_
  refine x_bipush (v := 7) rfl kb_7 ?_
  refine y_isub (v := 0) rfl (by decide) ?_
  refine x_icgt (tgt := 2893) rfl rfl (br_t (by decide) ?_)
  refine x_iconst (v := 1) rfl ki_1 ?_
  refine x_zret rfl rfl (by first | decide | exact jp_01 _) ?_
  exact hQ _
set_option maxRecDepth 100000 in
set_option maxHeartbeats 40000000 in
theorem cs_hold {xs : Nat → Int32} {h : jH} {Q : Option Value → jH → Prop} (F : jFb 31 h) (O : jOl 7 xs h) (hQ : ∀ h', Q (some (.int 1)) h') : jX m_L_law 1300 600000 7302249 1881 [(3, .int 0), (2, .ref 125), (1, .ref 31), (0, .ref 0)] [] h 143 360892 Q := by
  refine x_aloadn (x := 31) rfl rfl ?_
  refine x_aloadn (x := 0) rfl rfl ?_
  refine x_iloadn (x := 0) rfl rfl ?_
  refine x_iconst (v := 1) rfl ki_1 ?_
  refine y_iadd (v := 1) rfl (by decide) ?_
  refine y_iald (v := xs 1) (N := 7) 1 rfl (O 0 (by decide)).1 (jinb_of (by decide)) (by decide) ((O 0 (by decide)).2 1) ?_
  refine x_aloadn (x := 0) rfl rfl ?_
  refine x_iloadn (x := 0) rfl rfl ?_
  refine x_iconst (v := 2) rfl ki_2 ?_
  refine y_iadd (v := 2) rfl (by decide) ?_
  refine y_iald (v := xs 2) (N := 7) 2 rfl (O 0 (by decide)).1 (jinb_of (by decide)) (by decide) ((O 0 (by decide)).2 2) ?_
  refine x_aloadn (x := 0) rfl rfl ?_
  refine x_iloadn (x := 0) rfl rfl ?_
  refine x_iconst (v := 3) rfl ki_3 ?_
  refine y_iadd (v := 3) rfl (by decide) ?_
  refine y_iald (v := xs 3) (N := 7) 3 rfl (O 0 (by decide)).1 (jinb_of (by decide)) (by decide) ((O 0 (by decide)).2 3) ?_
  refine x_aloadn (x := 0) rfl rfl ?_
  refine x_iloadn (x := 0) rfl rfl ?_
  refine x_iconst (v := 4) rfl ki_4 ?_
  refine y_iadd (v := 4) rfl (by decide) ?_
  refine y_iald (v := xs 4) (N := 7) 4 rfl (O 0 (by decide)).1 (jinb_of (by decide)) (by decide) ((O 0 (by decide)).2 4) ?_
  refine x_inv (N := m_X11_hold) (As := [.int (xs 1), .int (xs 2), .int (xs 3), .int (xs 4)]) (b := 31) (st := []) (d' := 100) (mc := 0) (ms := 0) (host := "") 11 rfl t_X11_hold ⟨Or.inl q_13_170, i_X11_hold.1, i_X11_hold.2⟩ ⟨by decide, rfl⟩ (congrArg Prod.fst (F.1 31 (11, 13) rfl rfl)) rfl (by decide) rfl rfl ⟨by decide, by decide⟩ (px_hold (xs 1) (xs 2) (xs 3) (xs 4) F O ?_)
  intro h2 F2 O2
  show jX m_L_law 1300 600000 7302249 1905 [(3, .int 0), (2, .ref 125), (1, .ref 31), (0, .ref 0)] [.int (sp_hold (xs 1) (xs 2) (xs 3) (xs 4))] _ 143 360892 _
  refine x_aloadn (x := 125) rfl rfl ?_
  refine x_aloadn (x := 0) rfl rfl ?_
  refine x_iloadn (x := 0) rfl rfl ?_
  refine x_iconst (v := 1) rfl ki_1 ?_
  refine y_iadd (v := 1) rfl (by decide) ?_
  refine y_iald (v := xs 1) (N := 7) 1 rfl (O2 0 (by decide)).1 (jinb_of (by decide)) (by decide) ((O2 0 (by decide)).2 1) ?_
  refine x_aloadn (x := 0) rfl rfl ?_
  refine x_iloadn (x := 0) rfl rfl ?_
  refine x_iconst (v := 2) rfl ki_2 ?_
  refine y_iadd (v := 2) rfl (by decide) ?_
  refine y_iald (v := xs 2) (N := 7) 2 rfl (O2 0 (by decide)).1 (jinb_of (by decide)) (by decide) ((O2 0 (by decide)).2 2) ?_
  refine x_aloadn (x := 0) rfl rfl ?_
  refine x_iloadn (x := 0) rfl rfl ?_
  refine x_iconst (v := 3) rfl ki_3 ?_
  refine y_iadd (v := 3) rfl (by decide) ?_
  refine y_iald (v := xs 3) (N := 7) 3 rfl (O2 0 (by decide)).1 (jinb_of (by decide)) (by decide) ((O2 0 (by decide)).2 3) ?_
  refine x_aloadn (x := 0) rfl rfl ?_
  refine x_iloadn (x := 0) rfl rfl ?_
  refine x_iconst (v := 4) rfl ki_4 ?_
  refine y_iadd (v := 4) rfl (by decide) ?_
  refine y_iald (v := xs 4) (N := 7) 4 rfl (O2 0 (by decide)).1 (jinb_of (by decide)) (by decide) ((O2 0 (by decide)).2 4) ?_
  refine x_inv (N := m_X12_hold) (As := [.int (xs 1), .int (xs 2), .int (xs 3), .int (xs 4)]) (b := 125) (st := [.int (sp_hold (xs 1) (xs 2) (xs 3) (xs 4))]) (d' := 100) (mc := 0) (ms := 0) (host := "") 12 rfl t_X12_hold ⟨Or.inl q_13_173, i_X12_hold.1, i_X12_hold.2⟩ ⟨by decide, rfl⟩ (congrArg Prod.fst (F2.1 125 (12, 92) rfl rfl)) rfl (by decide) rfl rfl ⟨by decide, by decide⟩ (pm_hold (xs 1) (xs 2) (xs 3) (xs 4) F2 O2 ?_)
  intro h3 O3
  show jX m_L_law 1300 600000 7302249 1929 [(3, .int 0), (2, .ref 125), (1, .ref 31), (0, .ref 0)] [.int (sp_hold (xs 1) (xs 2) (xs 3) (xs 4)), .int (sp_hold (xs 1) (xs 2) (xs 3) (xs 4))] _ 143 360892 _
  refine x_iceq (tgt := 2887) rfl rfl (br_t rfl ?_)
  refine x_iinc (x := 0) (v := 7) (ls' := [(3, .int 7), (2, .ref 125), (1, .ref 31), (0, .ref 0)]) rfl rfl (by decide) rfl rfl ?_
  refine x_goto (tgt := 18) rfl rfl ?_
  refine x_iloadn (x := 7) rfl rfl ?_
  refine x_aloadn (x := 0) rfl rfl ?_
  refine y_alen (N := 7) (v := 7) rfl (O3 0 (by decide)).1 (by decide) (by decide) ?_
  refine x_bipush (v := 7) rfl kb_7 ?_
  refine y_isub (v := 0) rfl (by decide) ?_
  refine x_icgt (tgt := 2893) rfl rfl (br_t (by decide) ?_)
  refine x_iconst (v := 1) rfl ki_1 ?_
  refine x_zret rfl rfl (by first | decide | exact jp_01 _) ?_
  exact hQ _
set_option maxRecDepth 100000 in
set_option maxHeartbeats 40000000 in
theorem cs_house {xs : Nat → Int32} {h : jH} {Q : Option Value → jH → Prop} (F : jFb 31 h) (O : jOl 7 xs h) (hQ : ∀ h', Q (some (.int 1)) h') : jX m_L_law 1300 600000 7302249 1934 [(3, .int 0), (2, .ref 125), (1, .ref 31), (0, .ref 0)] [] h 143 360892 Q := by
  refine x_aloadn (x := 31) rfl rfl ?_
  refine x_aloadn (x := 0) rfl rfl ?_
  refine x_iloadn (x := 0) rfl rfl ?_
  refine x_iconst (v := 1) rfl ki_1 ?_
  refine y_iadd (v := 1) rfl (by decide) ?_
  refine y_iald (v := xs 1) (N := 7) 1 rfl (O 0 (by decide)).1 (jinb_of (by decide)) (by decide) ((O 0 (by decide)).2 1) ?_
  refine x_aloadn (x := 0) rfl rfl ?_
  refine x_iloadn (x := 0) rfl rfl ?_
  refine x_iconst (v := 2) rfl ki_2 ?_
  refine y_iadd (v := 2) rfl (by decide) ?_
  refine y_iald (v := xs 2) (N := 7) 2 rfl (O 0 (by decide)).1 (jinb_of (by decide)) (by decide) ((O 0 (by decide)).2 2) ?_
  refine x_aloadn (x := 0) rfl rfl ?_
  refine x_iloadn (x := 0) rfl rfl ?_
  refine x_iconst (v := 3) rfl ki_3 ?_
  refine y_iadd (v := 3) rfl (by decide) ?_
  refine y_iald (v := xs 3) (N := 7) 3 rfl (O 0 (by decide)).1 (jinb_of (by decide)) (by decide) ((O 0 (by decide)).2 3) ?_
  refine x_aloadn (x := 0) rfl rfl ?_
  refine x_iloadn (x := 0) rfl rfl ?_
  refine x_iconst (v := 4) rfl ki_4 ?_
  refine y_iadd (v := 4) rfl (by decide) ?_
  refine y_iald (v := xs 4) (N := 7) 4 rfl (O 0 (by decide)).1 (jinb_of (by decide)) (by decide) ((O 0 (by decide)).2 4) ?_
  refine x_inv (N := m_X11_house) (As := [.int (xs 1), .int (xs 2), .int (xs 3), .int (xs 4)]) (b := 31) (st := []) (d' := 100) (mc := 0) (ms := 0) (host := "") 11 rfl t_X11_house ⟨Or.inl q_13_174, i_X11_house.1, i_X11_house.2⟩ ⟨by decide, rfl⟩ (congrArg Prod.fst (F.1 31 (11, 13) rfl rfl)) rfl (by decide) rfl rfl ⟨by decide, by decide⟩ (px_house (xs 1) (xs 2) (xs 3) (xs 4) F O ?_)
  intro h2 F2 O2
  show jX m_L_law 1300 600000 7302249 1958 [(3, .int 0), (2, .ref 125), (1, .ref 31), (0, .ref 0)] [.int (sp_house (xs 1) (xs 2) (xs 3) (xs 4))] _ 143 360892 _
  refine x_aloadn (x := 125) rfl rfl ?_
  refine x_aloadn (x := 0) rfl rfl ?_
  refine x_iloadn (x := 0) rfl rfl ?_
  refine x_iconst (v := 1) rfl ki_1 ?_
  refine y_iadd (v := 1) rfl (by decide) ?_
  refine y_iald (v := xs 1) (N := 7) 1 rfl (O2 0 (by decide)).1 (jinb_of (by decide)) (by decide) ((O2 0 (by decide)).2 1) ?_
  refine x_aloadn (x := 0) rfl rfl ?_
  refine x_iloadn (x := 0) rfl rfl ?_
  refine x_iconst (v := 2) rfl ki_2 ?_
  refine y_iadd (v := 2) rfl (by decide) ?_
  refine y_iald (v := xs 2) (N := 7) 2 rfl (O2 0 (by decide)).1 (jinb_of (by decide)) (by decide) ((O2 0 (by decide)).2 2) ?_
  refine x_aloadn (x := 0) rfl rfl ?_
  refine x_iloadn (x := 0) rfl rfl ?_
  refine x_iconst (v := 3) rfl ki_3 ?_
  refine y_iadd (v := 3) rfl (by decide) ?_
  refine y_iald (v := xs 3) (N := 7) 3 rfl (O2 0 (by decide)).1 (jinb_of (by decide)) (by decide) ((O2 0 (by decide)).2 3) ?_
  refine x_aloadn (x := 0) rfl rfl ?_
  refine x_iloadn (x := 0) rfl rfl ?_
  refine x_iconst (v := 4) rfl ki_4 ?_
  refine y_iadd (v := 4) rfl (by decide) ?_
  refine y_iald (v := xs 4) (N := 7) 4 rfl (O2 0 (by decide)).1 (jinb_of (by decide)) (by decide) ((O2 0 (by decide)).2 4) ?_
  refine x_inv (N := m_X12_house) (As := [.int (xs 1), .int (xs 2), .int (xs 3), .int (xs 4)]) (b := 125) (st := [.int (sp_house (xs 1) (xs 2) (xs 3) (xs 4))]) (d' := 100) (mc := 0) (ms := 0) (host := "") 12 rfl t_X12_house ⟨Or.inl q_13_177, i_X12_house.1, i_X12_house.2⟩ ⟨by decide, rfl⟩ (congrArg Prod.fst (F2.1 125 (12, 92) rfl rfl)) rfl (by decide) rfl rfl ⟨by decide, by decide⟩ (pm_house (xs 1) (xs 2) (xs 3) (xs 4) F2 O2 ?_)
  intro h3 O3
  show jX m_L_law 1300 600000 7302249 1982 [(3, .int 0), (2, .ref 125), (1, .ref 31), (0, .ref 0)] [.int (sp_house (xs 1) (xs 2) (xs 3) (xs 4)), .int (sp_house (xs 1) (xs 2) (xs 3) (xs 4))] _ 143 360892 _
  refine x_iceq (tgt := 2887) rfl rfl (br_t rfl ?_)
  refine x_iinc (x := 0) (v := 7) (ls' := [(3, .int 7), (2, .ref 125), (1, .ref 31), (0, .ref 0)]) rfl rfl (by decide) rfl rfl ?_
  refine x_goto (tgt := 18) rfl rfl ?_
  refine x_iloadn (x := 7) rfl rfl ?_
  refine x_aloadn (x := 0) rfl rfl ?_
  refine y_alen (N := 7) (v := 7) rfl (O3 0 (by decide)).1 (by decide) (by decide) ?_
  refine x_bipush (v := 7) rfl kb_7 ?_
  refine y_isub (v := 0) rfl (by decide) ?_
  refine x_icgt (tgt := 2893) rfl rfl (br_t (by decide) ?_)
  refine x_iconst (v := 1) rfl ki_1 ?_
  refine x_zret rfl rfl (by first | decide | exact jp_01 _) ?_
  exact hQ _
set_option maxRecDepth 100000 in
set_option maxHeartbeats 40000000 in
theorem cs_levy {xs : Nat → Int32} {h : jH} {Q : Option Value → jH → Prop} (F : jFb 31 h) (O : jOl 7 xs h) (hQ : ∀ h', Q (some (.int 1)) h') : jX m_L_law 1300 600000 7302249 1987 [(3, .int 0), (2, .ref 125), (1, .ref 31), (0, .ref 0)] [] h 143 360892 Q := by
  refine x_aloadn (x := 31) rfl rfl ?_
  refine x_aloadn (x := 0) rfl rfl ?_
  refine x_iloadn (x := 0) rfl rfl ?_
  refine x_iconst (v := 1) rfl ki_1 ?_
  refine y_iadd (v := 1) rfl (by decide) ?_
  refine y_iald (v := xs 1) (N := 7) 1 rfl (O 0 (by decide)).1 (jinb_of (by decide)) (by decide) ((O 0 (by decide)).2 1) ?_
  refine x_aloadn (x := 0) rfl rfl ?_
  refine x_iloadn (x := 0) rfl rfl ?_
  refine x_iconst (v := 2) rfl ki_2 ?_
  refine y_iadd (v := 2) rfl (by decide) ?_
  refine y_iald (v := xs 2) (N := 7) 2 rfl (O 0 (by decide)).1 (jinb_of (by decide)) (by decide) ((O 0 (by decide)).2 2) ?_
  refine x_aloadn (x := 0) rfl rfl ?_
  refine x_iloadn (x := 0) rfl rfl ?_
  refine x_iconst (v := 3) rfl ki_3 ?_
  refine y_iadd (v := 3) rfl (by decide) ?_
  refine y_iald (v := xs 3) (N := 7) 3 rfl (O 0 (by decide)).1 (jinb_of (by decide)) (by decide) ((O 0 (by decide)).2 3) ?_
  refine x_aloadn (x := 0) rfl rfl ?_
  refine x_iloadn (x := 0) rfl rfl ?_
  refine x_iconst (v := 4) rfl ki_4 ?_
  refine y_iadd (v := 4) rfl (by decide) ?_
  refine y_iald (v := xs 4) (N := 7) 4 rfl (O 0 (by decide)).1 (jinb_of (by decide)) (by decide) ((O 0 (by decide)).2 4) ?_
  refine x_inv (N := m_X11_levy) (As := [.int (xs 1), .int (xs 2), .int (xs 3), .int (xs 4)]) (b := 31) (st := []) (d' := 100) (mc := 0) (ms := 0) (host := "") 11 rfl t_X11_levy ⟨Or.inl q_13_178, i_X11_levy.1, i_X11_levy.2⟩ ⟨by decide, rfl⟩ (congrArg Prod.fst (F.1 31 (11, 13) rfl rfl)) rfl (by decide) rfl rfl ⟨by decide, by decide⟩ (px_levy (xs 1) (xs 2) (xs 3) (xs 4) F O ?_)
  intro h2 F2 O2
  show jX m_L_law 1300 600000 7302249 2011 [(3, .int 0), (2, .ref 125), (1, .ref 31), (0, .ref 0)] [.int (sp_levy (xs 1) (xs 2) (xs 3) (xs 4))] _ 143 360892 _
  refine x_aloadn (x := 125) rfl rfl ?_
  refine x_aloadn (x := 0) rfl rfl ?_
  refine x_iloadn (x := 0) rfl rfl ?_
  refine x_iconst (v := 1) rfl ki_1 ?_
  refine y_iadd (v := 1) rfl (by decide) ?_
  refine y_iald (v := xs 1) (N := 7) 1 rfl (O2 0 (by decide)).1 (jinb_of (by decide)) (by decide) ((O2 0 (by decide)).2 1) ?_
  refine x_aloadn (x := 0) rfl rfl ?_
  refine x_iloadn (x := 0) rfl rfl ?_
  refine x_iconst (v := 2) rfl ki_2 ?_
  refine y_iadd (v := 2) rfl (by decide) ?_
  refine y_iald (v := xs 2) (N := 7) 2 rfl (O2 0 (by decide)).1 (jinb_of (by decide)) (by decide) ((O2 0 (by decide)).2 2) ?_
  refine x_aloadn (x := 0) rfl rfl ?_
  refine x_iloadn (x := 0) rfl rfl ?_
  refine x_iconst (v := 3) rfl ki_3 ?_
  refine y_iadd (v := 3) rfl (by decide) ?_
  refine y_iald (v := xs 3) (N := 7) 3 rfl (O2 0 (by decide)).1 (jinb_of (by decide)) (by decide) ((O2 0 (by decide)).2 3) ?_
  refine x_aloadn (x := 0) rfl rfl ?_
  refine x_iloadn (x := 0) rfl rfl ?_
  refine x_iconst (v := 4) rfl ki_4 ?_
  refine y_iadd (v := 4) rfl (by decide) ?_
  refine y_iald (v := xs 4) (N := 7) 4 rfl (O2 0 (by decide)).1 (jinb_of (by decide)) (by decide) ((O2 0 (by decide)).2 4) ?_
  refine x_inv (N := m_X12_levy) (As := [.int (xs 1), .int (xs 2), .int (xs 3), .int (xs 4)]) (b := 125) (st := [.int (sp_levy (xs 1) (xs 2) (xs 3) (xs 4))]) (d' := 100) (mc := 0) (ms := 0) (host := "") 12 rfl t_X12_levy ⟨Or.inl q_13_181, i_X12_levy.1, i_X12_levy.2⟩ ⟨by decide, rfl⟩ (congrArg Prod.fst (F2.1 125 (12, 92) rfl rfl)) rfl (by decide) rfl rfl ⟨by decide, by decide⟩ (pm_levy (xs 1) (xs 2) (xs 3) (xs 4) F2 O2 ?_)
  intro h3 O3
  show jX m_L_law 1300 600000 7302249 2035 [(3, .int 0), (2, .ref 125), (1, .ref 31), (0, .ref 0)] [.int (sp_levy (xs 1) (xs 2) (xs 3) (xs 4)), .int (sp_levy (xs 1) (xs 2) (xs 3) (xs 4))] _ 143 360892 _
  refine x_iceq (tgt := 2887) rfl rfl (br_t rfl ?_)
  refine x_iinc (x := 0) (v := 7) (ls' := [(3, .int 7), (2, .ref 125), (1, .ref 31), (0, .ref 0)]) rfl rfl (by decide) rfl rfl ?_
  refine x_goto (tgt := 18) rfl rfl ?_
  refine x_iloadn (x := 7) rfl rfl ?_
  refine x_aloadn (x := 0) rfl rfl ?_
  refine y_alen (N := 7) (v := 7) rfl (O3 0 (by decide)).1 (by decide) (by decide) ?_
  refine x_bipush (v := 7) rfl kb_7 ?_
  refine y_isub (v := 0) rfl (by decide) ?_
  refine x_icgt (tgt := 2893) rfl rfl (br_t (by decide) ?_)
  refine x_iconst (v := 1) rfl ki_1 ?_
  refine x_zret rfl rfl (by first | decide | exact jp_01 _) ?_
  exact hQ _
set_option maxRecDepth 100000 in
set_option maxHeartbeats 40000000 in
theorem cs_owe {xs : Nat → Int32} {h : jH} {Q : Option Value → jH → Prop} (F : jFb 31 h) (O : jOl 7 xs h) (hQ : ∀ h', Q (some (.int 1)) h') : jX m_L_law 1300 600000 7302249 2040 [(3, .int 0), (2, .ref 125), (1, .ref 31), (0, .ref 0)] [] h 143 360892 Q := by
  refine x_aloadn (x := 31) rfl rfl ?_
  refine x_aloadn (x := 0) rfl rfl ?_
  refine x_iloadn (x := 0) rfl rfl ?_
  refine x_iconst (v := 1) rfl ki_1 ?_
  refine y_iadd (v := 1) rfl (by decide) ?_
  refine y_iald (v := xs 1) (N := 7) 1 rfl (O 0 (by decide)).1 (jinb_of (by decide)) (by decide) ((O 0 (by decide)).2 1) ?_
  refine x_aloadn (x := 0) rfl rfl ?_
  refine x_iloadn (x := 0) rfl rfl ?_
  refine x_iconst (v := 2) rfl ki_2 ?_
  refine y_iadd (v := 2) rfl (by decide) ?_
  refine y_iald (v := xs 2) (N := 7) 2 rfl (O 0 (by decide)).1 (jinb_of (by decide)) (by decide) ((O 0 (by decide)).2 2) ?_
  refine x_aloadn (x := 0) rfl rfl ?_
  refine x_iloadn (x := 0) rfl rfl ?_
  refine x_iconst (v := 3) rfl ki_3 ?_
  refine y_iadd (v := 3) rfl (by decide) ?_
  refine y_iald (v := xs 3) (N := 7) 3 rfl (O 0 (by decide)).1 (jinb_of (by decide)) (by decide) ((O 0 (by decide)).2 3) ?_
  refine x_inv (N := m_X11_owe) (As := [.int (xs 1), .int (xs 2), .int (xs 3)]) (b := 31) (st := []) (d' := 100) (mc := 0) (ms := 0) (host := "") 11 rfl t_X11_owe ⟨Or.inl q_13_182, i_X11_owe.1, i_X11_owe.2⟩ ⟨by decide, rfl⟩ (congrArg Prod.fst (F.1 31 (11, 13) rfl rfl)) rfl (by decide) rfl rfl ⟨by decide, by decide⟩ (px_owe (xs 1) (xs 2) (xs 3) F O ?_)
  intro h2 F2 O2
  show jX m_L_law 1300 600000 7302249 2059 [(3, .int 0), (2, .ref 125), (1, .ref 31), (0, .ref 0)] [.int (sp_owe (xs 1) (xs 2) (xs 3))] _ 143 360892 _
  refine x_aloadn (x := 125) rfl rfl ?_
  refine x_aloadn (x := 0) rfl rfl ?_
  refine x_iloadn (x := 0) rfl rfl ?_
  refine x_iconst (v := 1) rfl ki_1 ?_
  refine y_iadd (v := 1) rfl (by decide) ?_
  refine y_iald (v := xs 1) (N := 7) 1 rfl (O2 0 (by decide)).1 (jinb_of (by decide)) (by decide) ((O2 0 (by decide)).2 1) ?_
  refine x_aloadn (x := 0) rfl rfl ?_
  refine x_iloadn (x := 0) rfl rfl ?_
  refine x_iconst (v := 2) rfl ki_2 ?_
  refine y_iadd (v := 2) rfl (by decide) ?_
  refine y_iald (v := xs 2) (N := 7) 2 rfl (O2 0 (by decide)).1 (jinb_of (by decide)) (by decide) ((O2 0 (by decide)).2 2) ?_
  refine x_aloadn (x := 0) rfl rfl ?_
  refine x_iloadn (x := 0) rfl rfl ?_
  refine x_iconst (v := 3) rfl ki_3 ?_
  refine y_iadd (v := 3) rfl (by decide) ?_
  refine y_iald (v := xs 3) (N := 7) 3 rfl (O2 0 (by decide)).1 (jinb_of (by decide)) (by decide) ((O2 0 (by decide)).2 3) ?_
  refine x_inv (N := m_X12_owe) (As := [.int (xs 1), .int (xs 2), .int (xs 3)]) (b := 125) (st := [.int (sp_owe (xs 1) (xs 2) (xs 3))]) (d' := 100) (mc := 0) (ms := 0) (host := "") 12 rfl t_X12_owe ⟨Or.inl q_13_185, i_X12_owe.1, i_X12_owe.2⟩ ⟨by decide, rfl⟩ (congrArg Prod.fst (F2.1 125 (12, 92) rfl rfl)) rfl (by decide) rfl rfl ⟨by decide, by decide⟩ (pm_owe (xs 1) (xs 2) (xs 3) F2 O2 ?_)
  intro h3 O3
  show jX m_L_law 1300 600000 7302249 2078 [(3, .int 0), (2, .ref 125), (1, .ref 31), (0, .ref 0)] [.int (sp_owe (xs 1) (xs 2) (xs 3)), .int (sp_owe (xs 1) (xs 2) (xs 3))] _ 143 360892 _
  refine x_iceq (tgt := 2887) rfl rfl (br_t rfl ?_)
  refine x_iinc (x := 0) (v := 7) (ls' := [(3, .int 7), (2, .ref 125), (1, .ref 31), (0, .ref 0)]) rfl rfl (by decide) rfl rfl ?_
  refine x_goto (tgt := 18) rfl rfl ?_
  refine x_iloadn (x := 7) rfl rfl ?_
  refine x_aloadn (x := 0) rfl rfl ?_
  refine y_alen (N := 7) (v := 7) rfl (O3 0 (by decide)).1 (by decide) (by decide) ?_
  refine x_bipush (v := 7) rfl kb_7 ?_
  refine y_isub (v := 0) rfl (by decide) ?_
  refine x_icgt (tgt := 2893) rfl rfl (br_t (by decide) ?_)
  refine x_iconst (v := 1) rfl ki_1 ?_
  refine x_zret rfl rfl (by first | decide | exact jp_01 _) ?_
  exact hQ _
set_option maxRecDepth 100000 in
set_option maxHeartbeats 40000000 in
theorem cs_pay {xs : Nat → Int32} {h : jH} {Q : Option Value → jH → Prop} (F : jFb 31 h) (O : jOl 7 xs h) (hQ : ∀ h', Q (some (.int 1)) h') : jX m_L_law 1300 600000 7302249 2083 [(3, .int 0), (2, .ref 125), (1, .ref 31), (0, .ref 0)] [] h 143 360892 Q := by
  refine x_aloadn (x := 31) rfl rfl ?_
  refine x_aloadn (x := 0) rfl rfl ?_
  refine x_iloadn (x := 0) rfl rfl ?_
  refine x_iconst (v := 1) rfl ki_1 ?_
  refine y_iadd (v := 1) rfl (by decide) ?_
  refine y_iald (v := xs 1) (N := 7) 1 rfl (O 0 (by decide)).1 (jinb_of (by decide)) (by decide) ((O 0 (by decide)).2 1) ?_
  refine x_aloadn (x := 0) rfl rfl ?_
  refine x_iloadn (x := 0) rfl rfl ?_
  refine x_iconst (v := 2) rfl ki_2 ?_
  refine y_iadd (v := 2) rfl (by decide) ?_
  refine y_iald (v := xs 2) (N := 7) 2 rfl (O 0 (by decide)).1 (jinb_of (by decide)) (by decide) ((O 0 (by decide)).2 2) ?_
  refine x_aloadn (x := 0) rfl rfl ?_
  refine x_iloadn (x := 0) rfl rfl ?_
  refine x_iconst (v := 3) rfl ki_3 ?_
  refine y_iadd (v := 3) rfl (by decide) ?_
  refine y_iald (v := xs 3) (N := 7) 3 rfl (O 0 (by decide)).1 (jinb_of (by decide)) (by decide) ((O 0 (by decide)).2 3) ?_
  refine x_aloadn (x := 0) rfl rfl ?_
  refine x_iloadn (x := 0) rfl rfl ?_
  refine x_iconst (v := 4) rfl ki_4 ?_
  refine y_iadd (v := 4) rfl (by decide) ?_
  refine y_iald (v := xs 4) (N := 7) 4 rfl (O 0 (by decide)).1 (jinb_of (by decide)) (by decide) ((O 0 (by decide)).2 4) ?_
  refine x_aloadn (x := 0) rfl rfl ?_
  refine x_iloadn (x := 0) rfl rfl ?_
  refine x_iconst (v := 5) rfl ki_5 ?_
  refine y_iadd (v := 5) rfl (by decide) ?_
  refine y_iald (v := xs 5) (N := 7) 5 rfl (O 0 (by decide)).1 (jinb_of (by decide)) (by decide) ((O 0 (by decide)).2 5) ?_
  refine x_inv (N := m_X11_pay) (As := [.int (xs 1), .int (xs 2), .int (xs 3), .int (xs 4), .int (xs 5)]) (b := 31) (st := []) (d' := 100) (mc := 0) (ms := 0) (host := "") 11 rfl t_X11_pay ⟨Or.inl q_13_186, i_X11_pay.1, i_X11_pay.2⟩ ⟨by decide, rfl⟩ (congrArg Prod.fst (F.1 31 (11, 13) rfl rfl)) rfl (by decide) rfl rfl ⟨by decide, by decide⟩ (px_pay (xs 1) (xs 2) (xs 3) (xs 4) (xs 5) F O ?_)
  intro h2 F2 O2
  show jX m_L_law 1300 600000 7302249 2112 [(3, .int 0), (2, .ref 125), (1, .ref 31), (0, .ref 0)] [.int (sp_pay (xs 1) (xs 2) (xs 3) (xs 4) (xs 5))] _ 143 360892 _
  refine x_aloadn (x := 125) rfl rfl ?_
  refine x_aloadn (x := 0) rfl rfl ?_
  refine x_iloadn (x := 0) rfl rfl ?_
  refine x_iconst (v := 1) rfl ki_1 ?_
  refine y_iadd (v := 1) rfl (by decide) ?_
  refine y_iald (v := xs 1) (N := 7) 1 rfl (O2 0 (by decide)).1 (jinb_of (by decide)) (by decide) ((O2 0 (by decide)).2 1) ?_
  refine x_aloadn (x := 0) rfl rfl ?_
  refine x_iloadn (x := 0) rfl rfl ?_
  refine x_iconst (v := 2) rfl ki_2 ?_
  refine y_iadd (v := 2) rfl (by decide) ?_
  refine y_iald (v := xs 2) (N := 7) 2 rfl (O2 0 (by decide)).1 (jinb_of (by decide)) (by decide) ((O2 0 (by decide)).2 2) ?_
  refine x_aloadn (x := 0) rfl rfl ?_
  refine x_iloadn (x := 0) rfl rfl ?_
  refine x_iconst (v := 3) rfl ki_3 ?_
  refine y_iadd (v := 3) rfl (by decide) ?_
  refine y_iald (v := xs 3) (N := 7) 3 rfl (O2 0 (by decide)).1 (jinb_of (by decide)) (by decide) ((O2 0 (by decide)).2 3) ?_
  refine x_aloadn (x := 0) rfl rfl ?_
  refine x_iloadn (x := 0) rfl rfl ?_
  refine x_iconst (v := 4) rfl ki_4 ?_
  refine y_iadd (v := 4) rfl (by decide) ?_
  refine y_iald (v := xs 4) (N := 7) 4 rfl (O2 0 (by decide)).1 (jinb_of (by decide)) (by decide) ((O2 0 (by decide)).2 4) ?_
  refine x_aloadn (x := 0) rfl rfl ?_
  refine x_iloadn (x := 0) rfl rfl ?_
  refine x_iconst (v := 5) rfl ki_5 ?_
  refine y_iadd (v := 5) rfl (by decide) ?_
  refine y_iald (v := xs 5) (N := 7) 5 rfl (O2 0 (by decide)).1 (jinb_of (by decide)) (by decide) ((O2 0 (by decide)).2 5) ?_
  refine x_inv (N := m_X12_pay) (As := [.int (xs 1), .int (xs 2), .int (xs 3), .int (xs 4), .int (xs 5)]) (b := 125) (st := [.int (sp_pay (xs 1) (xs 2) (xs 3) (xs 4) (xs 5))]) (d' := 100) (mc := 0) (ms := 0) (host := "") 12 rfl t_X12_pay ⟨Or.inl q_13_189, i_X12_pay.1, i_X12_pay.2⟩ ⟨by decide, rfl⟩ (congrArg Prod.fst (F2.1 125 (12, 92) rfl rfl)) rfl (by decide) rfl rfl ⟨by decide, by decide⟩ (pm_pay (xs 1) (xs 2) (xs 3) (xs 4) (xs 5) F2 O2 ?_)
  intro h3 O3
  show jX m_L_law 1300 600000 7302249 2141 [(3, .int 0), (2, .ref 125), (1, .ref 31), (0, .ref 0)] [.int (sp_pay (xs 1) (xs 2) (xs 3) (xs 4) (xs 5)), .int (sp_pay (xs 1) (xs 2) (xs 3) (xs 4) (xs 5))] _ 143 360892 _
  refine x_iceq (tgt := 2887) rfl rfl (br_t rfl ?_)
  refine x_iinc (x := 0) (v := 7) (ls' := [(3, .int 7), (2, .ref 125), (1, .ref 31), (0, .ref 0)]) rfl rfl (by decide) rfl rfl ?_
  refine x_goto (tgt := 18) rfl rfl ?_
  refine x_iloadn (x := 7) rfl rfl ?_
  refine x_aloadn (x := 0) rfl rfl ?_
  refine y_alen (N := 7) (v := 7) rfl (O3 0 (by decide)).1 (by decide) (by decide) ?_
  refine x_bipush (v := 7) rfl kb_7 ?_
  refine y_isub (v := 0) rfl (by decide) ?_
  refine x_icgt (tgt := 2893) rfl rfl (br_t (by decide) ?_)
  refine x_iconst (v := 1) rfl ki_1 ?_
  refine x_zret rfl rfl (by first | decide | exact jp_01 _) ?_
  exact hQ _
set_option maxRecDepth 100000 in
set_option maxHeartbeats 40000000 in
theorem cs_arrear {xs : Nat → Int32} {h : jH} {Q : Option Value → jH → Prop} (F : jFb 31 h) (O : jOl 7 xs h) (hQ : ∀ h', Q (some (.int 1)) h') : jX m_L_law 1300 600000 7302249 2146 [(3, .int 0), (2, .ref 125), (1, .ref 31), (0, .ref 0)] [] h 143 360892 Q := by
  refine x_aloadn (x := 31) rfl rfl ?_
  refine x_aloadn (x := 0) rfl rfl ?_
  refine x_iloadn (x := 0) rfl rfl ?_
  refine x_iconst (v := 1) rfl ki_1 ?_
  refine y_iadd (v := 1) rfl (by decide) ?_
  refine y_iald (v := xs 1) (N := 7) 1 rfl (O 0 (by decide)).1 (jinb_of (by decide)) (by decide) ((O 0 (by decide)).2 1) ?_
  refine x_aloadn (x := 0) rfl rfl ?_
  refine x_iloadn (x := 0) rfl rfl ?_
  refine x_iconst (v := 2) rfl ki_2 ?_
  refine y_iadd (v := 2) rfl (by decide) ?_
  refine y_iald (v := xs 2) (N := 7) 2 rfl (O 0 (by decide)).1 (jinb_of (by decide)) (by decide) ((O 0 (by decide)).2 2) ?_
  refine x_aloadn (x := 0) rfl rfl ?_
  refine x_iloadn (x := 0) rfl rfl ?_
  refine x_iconst (v := 3) rfl ki_3 ?_
  refine y_iadd (v := 3) rfl (by decide) ?_
  refine y_iald (v := xs 3) (N := 7) 3 rfl (O 0 (by decide)).1 (jinb_of (by decide)) (by decide) ((O 0 (by decide)).2 3) ?_
  refine x_aloadn (x := 0) rfl rfl ?_
  refine x_iloadn (x := 0) rfl rfl ?_
  refine x_iconst (v := 4) rfl ki_4 ?_
  refine y_iadd (v := 4) rfl (by decide) ?_
  refine y_iald (v := xs 4) (N := 7) 4 rfl (O 0 (by decide)).1 (jinb_of (by decide)) (by decide) ((O 0 (by decide)).2 4) ?_
  refine x_inv (N := m_X11_arrear) (As := [.int (xs 1), .int (xs 2), .int (xs 3), .int (xs 4)]) (b := 31) (st := []) (d' := 100) (mc := 0) (ms := 0) (host := "") 11 rfl t_X11_arrear ⟨Or.inl q_13_190, i_X11_arrear.1, i_X11_arrear.2⟩ ⟨by decide, rfl⟩ (congrArg Prod.fst (F.1 31 (11, 13) rfl rfl)) rfl (by decide) rfl rfl ⟨by decide, by decide⟩ (px_arrear (xs 1) (xs 2) (xs 3) (xs 4) F O ?_)
  intro h2 F2 O2
  show jX m_L_law 1300 600000 7302249 2170 [(3, .int 0), (2, .ref 125), (1, .ref 31), (0, .ref 0)] [.int (sp_arrear (xs 1) (xs 2) (xs 3) (xs 4))] _ 143 360892 _
  refine x_aloadn (x := 125) rfl rfl ?_
  refine x_aloadn (x := 0) rfl rfl ?_
  refine x_iloadn (x := 0) rfl rfl ?_
  refine x_iconst (v := 1) rfl ki_1 ?_
  refine y_iadd (v := 1) rfl (by decide) ?_
  refine y_iald (v := xs 1) (N := 7) 1 rfl (O2 0 (by decide)).1 (jinb_of (by decide)) (by decide) ((O2 0 (by decide)).2 1) ?_
  refine x_aloadn (x := 0) rfl rfl ?_
  refine x_iloadn (x := 0) rfl rfl ?_
  refine x_iconst (v := 2) rfl ki_2 ?_
  refine y_iadd (v := 2) rfl (by decide) ?_
  refine y_iald (v := xs 2) (N := 7) 2 rfl (O2 0 (by decide)).1 (jinb_of (by decide)) (by decide) ((O2 0 (by decide)).2 2) ?_
  refine x_aloadn (x := 0) rfl rfl ?_
  refine x_iloadn (x := 0) rfl rfl ?_
  refine x_iconst (v := 3) rfl ki_3 ?_
  refine y_iadd (v := 3) rfl (by decide) ?_
  refine y_iald (v := xs 3) (N := 7) 3 rfl (O2 0 (by decide)).1 (jinb_of (by decide)) (by decide) ((O2 0 (by decide)).2 3) ?_
  refine x_aloadn (x := 0) rfl rfl ?_
  refine x_iloadn (x := 0) rfl rfl ?_
  refine x_iconst (v := 4) rfl ki_4 ?_
  refine y_iadd (v := 4) rfl (by decide) ?_
  refine y_iald (v := xs 4) (N := 7) 4 rfl (O2 0 (by decide)).1 (jinb_of (by decide)) (by decide) ((O2 0 (by decide)).2 4) ?_
  refine x_inv (N := m_X12_arrear) (As := [.int (xs 1), .int (xs 2), .int (xs 3), .int (xs 4)]) (b := 125) (st := [.int (sp_arrear (xs 1) (xs 2) (xs 3) (xs 4))]) (d' := 100) (mc := 0) (ms := 0) (host := "") 12 rfl t_X12_arrear ⟨Or.inl q_13_193, i_X12_arrear.1, i_X12_arrear.2⟩ ⟨by decide, rfl⟩ (congrArg Prod.fst (F2.1 125 (12, 92) rfl rfl)) rfl (by decide) rfl rfl ⟨by decide, by decide⟩ (pm_arrear (xs 1) (xs 2) (xs 3) (xs 4) F2 O2 ?_)
  intro h3 O3
  show jX m_L_law 1300 600000 7302249 2194 [(3, .int 0), (2, .ref 125), (1, .ref 31), (0, .ref 0)] [.int (sp_arrear (xs 1) (xs 2) (xs 3) (xs 4)), .int (sp_arrear (xs 1) (xs 2) (xs 3) (xs 4))] _ 143 360892 _
  refine x_iceq (tgt := 2887) rfl rfl (br_t rfl ?_)
  refine x_iinc (x := 0) (v := 7) (ls' := [(3, .int 7), (2, .ref 125), (1, .ref 31), (0, .ref 0)]) rfl rfl (by decide) rfl rfl ?_
  refine x_goto (tgt := 18) rfl rfl ?_
  refine x_iloadn (x := 7) rfl rfl ?_
  refine x_aloadn (x := 0) rfl rfl ?_
  refine y_alen (N := 7) (v := 7) rfl (O3 0 (by decide)).1 (by decide) (by decide) ?_
  refine x_bipush (v := 7) rfl kb_7 ?_
  refine y_isub (v := 0) rfl (by decide) ?_
  refine x_icgt (tgt := 2893) rfl rfl (br_t (by decide) ?_)
  refine x_iconst (v := 1) rfl ki_1 ?_
  refine x_zret rfl rfl (by first | decide | exact jp_01 _) ?_
  exact hQ _
set_option maxRecDepth 100000 in
set_option maxHeartbeats 40000000 in
theorem cs_turn {xs : Nat → Int32} {h : jH} {Q : Option Value → jH → Prop} (F : jFb 31 h) (O : jOl 7 xs h) (hQ : ∀ h', Q (some (.int 1)) h') : jX m_L_law 1300 600000 7302249 2199 [(3, .int 0), (2, .ref 125), (1, .ref 31), (0, .ref 0)] [] h 143 360892 Q := by
  refine x_aloadn (x := 31) rfl rfl ?_
  refine x_aloadn (x := 0) rfl rfl ?_
  refine x_iloadn (x := 0) rfl rfl ?_
  refine x_iconst (v := 1) rfl ki_1 ?_
  refine y_iadd (v := 1) rfl (by decide) ?_
  refine y_iald (v := xs 1) (N := 7) 1 rfl (O 0 (by decide)).1 (jinb_of (by decide)) (by decide) ((O 0 (by decide)).2 1) ?_
  refine x_aloadn (x := 0) rfl rfl ?_
  refine x_iloadn (x := 0) rfl rfl ?_
  refine x_iconst (v := 2) rfl ki_2 ?_
  refine y_iadd (v := 2) rfl (by decide) ?_
  refine y_iald (v := xs 2) (N := 7) 2 rfl (O 0 (by decide)).1 (jinb_of (by decide)) (by decide) ((O 0 (by decide)).2 2) ?_
  refine x_aloadn (x := 0) rfl rfl ?_
  refine x_iloadn (x := 0) rfl rfl ?_
  refine x_iconst (v := 3) rfl ki_3 ?_
  refine y_iadd (v := 3) rfl (by decide) ?_
  refine y_iald (v := xs 3) (N := 7) 3 rfl (O 0 (by decide)).1 (jinb_of (by decide)) (by decide) ((O 0 (by decide)).2 3) ?_
  refine x_aloadn (x := 0) rfl rfl ?_
  refine x_iloadn (x := 0) rfl rfl ?_
  refine x_iconst (v := 4) rfl ki_4 ?_
  refine y_iadd (v := 4) rfl (by decide) ?_
  refine y_iald (v := xs 4) (N := 7) 4 rfl (O 0 (by decide)).1 (jinb_of (by decide)) (by decide) ((O 0 (by decide)).2 4) ?_
  refine x_inv (N := m_X11_turn) (As := [.int (xs 1), .int (xs 2), .int (xs 3), .int (xs 4)]) (b := 31) (st := []) (d' := 100) (mc := 0) (ms := 0) (host := "") 11 rfl t_X11_turn ⟨Or.inl q_13_194, i_X11_turn.1, i_X11_turn.2⟩ ⟨by decide, rfl⟩ (congrArg Prod.fst (F.1 31 (11, 13) rfl rfl)) rfl (by decide) rfl rfl ⟨by decide, by decide⟩ (px_turn (xs 1) (xs 2) (xs 3) (xs 4) F O ?_)
  intro h2 F2 O2
  show jX m_L_law 1300 600000 7302249 2223 [(3, .int 0), (2, .ref 125), (1, .ref 31), (0, .ref 0)] [.int (sp_turn (xs 1) (xs 2) (xs 3) (xs 4))] _ 143 360892 _
  refine x_aloadn (x := 125) rfl rfl ?_
  refine x_aloadn (x := 0) rfl rfl ?_
  refine x_iloadn (x := 0) rfl rfl ?_
  refine x_iconst (v := 1) rfl ki_1 ?_
  refine y_iadd (v := 1) rfl (by decide) ?_
  refine y_iald (v := xs 1) (N := 7) 1 rfl (O2 0 (by decide)).1 (jinb_of (by decide)) (by decide) ((O2 0 (by decide)).2 1) ?_
  refine x_aloadn (x := 0) rfl rfl ?_
  refine x_iloadn (x := 0) rfl rfl ?_
  refine x_iconst (v := 2) rfl ki_2 ?_
  refine y_iadd (v := 2) rfl (by decide) ?_
  refine y_iald (v := xs 2) (N := 7) 2 rfl (O2 0 (by decide)).1 (jinb_of (by decide)) (by decide) ((O2 0 (by decide)).2 2) ?_
  refine x_aloadn (x := 0) rfl rfl ?_
  refine x_iloadn (x := 0) rfl rfl ?_
  refine x_iconst (v := 3) rfl ki_3 ?_
  refine y_iadd (v := 3) rfl (by decide) ?_
  refine y_iald (v := xs 3) (N := 7) 3 rfl (O2 0 (by decide)).1 (jinb_of (by decide)) (by decide) ((O2 0 (by decide)).2 3) ?_
  refine x_aloadn (x := 0) rfl rfl ?_
  refine x_iloadn (x := 0) rfl rfl ?_
  refine x_iconst (v := 4) rfl ki_4 ?_
  refine y_iadd (v := 4) rfl (by decide) ?_
  refine y_iald (v := xs 4) (N := 7) 4 rfl (O2 0 (by decide)).1 (jinb_of (by decide)) (by decide) ((O2 0 (by decide)).2 4) ?_
  refine x_inv (N := m_X12_turn) (As := [.int (xs 1), .int (xs 2), .int (xs 3), .int (xs 4)]) (b := 125) (st := [.int (sp_turn (xs 1) (xs 2) (xs 3) (xs 4))]) (d' := 100) (mc := 0) (ms := 0) (host := "") 12 rfl t_X12_turn ⟨Or.inl q_13_197, i_X12_turn.1, i_X12_turn.2⟩ ⟨by decide, rfl⟩ (congrArg Prod.fst (F2.1 125 (12, 92) rfl rfl)) rfl (by decide) rfl rfl ⟨by decide, by decide⟩ (pm_turn (xs 1) (xs 2) (xs 3) (xs 4) F2 O2 ?_)
  intro h3 O3
  show jX m_L_law 1300 600000 7302249 2247 [(3, .int 0), (2, .ref 125), (1, .ref 31), (0, .ref 0)] [.int (sp_turn (xs 1) (xs 2) (xs 3) (xs 4)), .int (sp_turn (xs 1) (xs 2) (xs 3) (xs 4))] _ 143 360892 _
  refine x_iceq (tgt := 2887) rfl rfl (br_t rfl ?_)
  refine x_iinc (x := 0) (v := 7) (ls' := [(3, .int 7), (2, .ref 125), (1, .ref 31), (0, .ref 0)]) rfl rfl (by decide) rfl rfl ?_
  refine x_goto (tgt := 18) rfl rfl ?_
  refine x_iloadn (x := 7) rfl rfl ?_
  refine x_aloadn (x := 0) rfl rfl ?_
  refine y_alen (N := 7) (v := 7) rfl (O3 0 (by decide)).1 (by decide) (by decide) ?_
  refine x_bipush (v := 7) rfl kb_7 ?_
  refine y_isub (v := 0) rfl (by decide) ?_
  refine x_icgt (tgt := 2893) rfl rfl (br_t (by decide) ?_)
  refine x_iconst (v := 1) rfl ki_1 ?_
  refine x_zret rfl rfl (by first | decide | exact jp_01 _) ?_
  exact hQ _
set_option maxRecDepth 100000 in
set_option maxHeartbeats 40000000 in
theorem cs_entry {xs : Nat → Int32} {h : jH} {Q : Option Value → jH → Prop} (F : jFb 31 h) (O : jOl 7 xs h) (hQ : ∀ h', Q (some (.int 1)) h') : jX m_L_law 1300 600000 7302249 2252 [(3, .int 0), (2, .ref 125), (1, .ref 31), (0, .ref 0)] [] h 143 360892 Q := by
  refine x_aloadn (x := 31) rfl rfl ?_
  refine x_aloadn (x := 0) rfl rfl ?_
  refine x_iloadn (x := 0) rfl rfl ?_
  refine x_iconst (v := 1) rfl ki_1 ?_
  refine y_iadd (v := 1) rfl (by decide) ?_
  refine y_iald (v := xs 1) (N := 7) 1 rfl (O 0 (by decide)).1 (jinb_of (by decide)) (by decide) ((O 0 (by decide)).2 1) ?_
  refine x_aloadn (x := 0) rfl rfl ?_
  refine x_iloadn (x := 0) rfl rfl ?_
  refine x_iconst (v := 2) rfl ki_2 ?_
  refine y_iadd (v := 2) rfl (by decide) ?_
  refine y_iald (v := xs 2) (N := 7) 2 rfl (O 0 (by decide)).1 (jinb_of (by decide)) (by decide) ((O 0 (by decide)).2 2) ?_
  refine x_aloadn (x := 0) rfl rfl ?_
  refine x_iloadn (x := 0) rfl rfl ?_
  refine x_iconst (v := 3) rfl ki_3 ?_
  refine y_iadd (v := 3) rfl (by decide) ?_
  refine y_iald (v := xs 3) (N := 7) 3 rfl (O 0 (by decide)).1 (jinb_of (by decide)) (by decide) ((O 0 (by decide)).2 3) ?_
  refine x_aloadn (x := 0) rfl rfl ?_
  refine x_iloadn (x := 0) rfl rfl ?_
  refine x_iconst (v := 4) rfl ki_4 ?_
  refine y_iadd (v := 4) rfl (by decide) ?_
  refine y_iald (v := xs 4) (N := 7) 4 rfl (O 0 (by decide)).1 (jinb_of (by decide)) (by decide) ((O 0 (by decide)).2 4) ?_
  refine x_inv (N := m_X11_entry) (As := [.int (xs 1), .int (xs 2), .int (xs 3), .int (xs 4)]) (b := 31) (st := []) (d' := 100) (mc := 0) (ms := 0) (host := "") 11 rfl t_X11_entry ⟨Or.inl q_13_198, i_X11_entry.1, i_X11_entry.2⟩ ⟨by decide, rfl⟩ (congrArg Prod.fst (F.1 31 (11, 13) rfl rfl)) rfl (by decide) rfl rfl ⟨by decide, by decide⟩ (px_entry (xs 1) (xs 2) (xs 3) (xs 4) F O ?_)
  intro h2 F2 O2
  show jX m_L_law 1300 600000 7302249 2276 [(3, .int 0), (2, .ref 125), (1, .ref 31), (0, .ref 0)] [.int (sp_entry (xs 1) (xs 2) (xs 3) (xs 4))] _ 143 360892 _
  refine x_aloadn (x := 125) rfl rfl ?_
  refine x_aloadn (x := 0) rfl rfl ?_
  refine x_iloadn (x := 0) rfl rfl ?_
  refine x_iconst (v := 1) rfl ki_1 ?_
  refine y_iadd (v := 1) rfl (by decide) ?_
  refine y_iald (v := xs 1) (N := 7) 1 rfl (O2 0 (by decide)).1 (jinb_of (by decide)) (by decide) ((O2 0 (by decide)).2 1) ?_
  refine x_aloadn (x := 0) rfl rfl ?_
  refine x_iloadn (x := 0) rfl rfl ?_
  refine x_iconst (v := 2) rfl ki_2 ?_
  refine y_iadd (v := 2) rfl (by decide) ?_
  refine y_iald (v := xs 2) (N := 7) 2 rfl (O2 0 (by decide)).1 (jinb_of (by decide)) (by decide) ((O2 0 (by decide)).2 2) ?_
  refine x_aloadn (x := 0) rfl rfl ?_
  refine x_iloadn (x := 0) rfl rfl ?_
  refine x_iconst (v := 3) rfl ki_3 ?_
  refine y_iadd (v := 3) rfl (by decide) ?_
  refine y_iald (v := xs 3) (N := 7) 3 rfl (O2 0 (by decide)).1 (jinb_of (by decide)) (by decide) ((O2 0 (by decide)).2 3) ?_
  refine x_aloadn (x := 0) rfl rfl ?_
  refine x_iloadn (x := 0) rfl rfl ?_
  refine x_iconst (v := 4) rfl ki_4 ?_
  refine y_iadd (v := 4) rfl (by decide) ?_
  refine y_iald (v := xs 4) (N := 7) 4 rfl (O2 0 (by decide)).1 (jinb_of (by decide)) (by decide) ((O2 0 (by decide)).2 4) ?_
  refine x_inv (N := m_X12_entry) (As := [.int (xs 1), .int (xs 2), .int (xs 3), .int (xs 4)]) (b := 125) (st := [.int (sp_entry (xs 1) (xs 2) (xs 3) (xs 4))]) (d' := 100) (mc := 0) (ms := 0) (host := "") 12 rfl t_X12_entry ⟨Or.inl q_13_201, i_X12_entry.1, i_X12_entry.2⟩ ⟨by decide, rfl⟩ (congrArg Prod.fst (F2.1 125 (12, 92) rfl rfl)) rfl (by decide) rfl rfl ⟨by decide, by decide⟩ (pm_entry (xs 1) (xs 2) (xs 3) (xs 4) F2 O2 ?_)
  intro h3 O3
  show jX m_L_law 1300 600000 7302249 2300 [(3, .int 0), (2, .ref 125), (1, .ref 31), (0, .ref 0)] [.int (sp_entry (xs 1) (xs 2) (xs 3) (xs 4)), .int (sp_entry (xs 1) (xs 2) (xs 3) (xs 4))] _ 143 360892 _
  refine x_iceq (tgt := 2887) rfl rfl (br_t rfl ?_)
  refine x_iinc (x := 0) (v := 7) (ls' := [(3, .int 7), (2, .ref 125), (1, .ref 31), (0, .ref 0)]) rfl rfl (by decide) rfl rfl ?_
  refine x_goto (tgt := 18) rfl rfl ?_
  refine x_iloadn (x := 7) rfl rfl ?_
  refine x_aloadn (x := 0) rfl rfl ?_
  refine y_alen (N := 7) (v := 7) rfl (O3 0 (by decide)).1 (by decide) (by decide) ?_
  refine x_bipush (v := 7) rfl kb_7 ?_
  refine y_isub (v := 0) rfl (by decide) ?_
  refine x_icgt (tgt := 2893) rfl rfl (br_t (by decide) ?_)
  refine x_iconst (v := 1) rfl ki_1 ?_
  refine x_zret rfl rfl (by first | decide | exact jp_01 _) ?_
  exact hQ _
set_option maxRecDepth 100000 in
set_option maxHeartbeats 40000000 in
theorem cs_close {xs : Nat → Int32} {h : jH} {Q : Option Value → jH → Prop} (F : jFb 31 h) (O : jOl 7 xs h) (hQ : ∀ h', Q (some (.int 1)) h') : jX m_L_law 1300 600000 7302249 2305 [(3, .int 0), (2, .ref 125), (1, .ref 31), (0, .ref 0)] [] h 143 360892 Q := by
  refine x_aloadn (x := 31) rfl rfl ?_
  refine x_aloadn (x := 0) rfl rfl ?_
  refine x_iloadn (x := 0) rfl rfl ?_
  refine x_iconst (v := 1) rfl ki_1 ?_
  refine y_iadd (v := 1) rfl (by decide) ?_
  refine y_iald (v := xs 1) (N := 7) 1 rfl (O 0 (by decide)).1 (jinb_of (by decide)) (by decide) ((O 0 (by decide)).2 1) ?_
  refine x_aloadn (x := 0) rfl rfl ?_
  refine x_iloadn (x := 0) rfl rfl ?_
  refine x_iconst (v := 2) rfl ki_2 ?_
  refine y_iadd (v := 2) rfl (by decide) ?_
  refine y_iald (v := xs 2) (N := 7) 2 rfl (O 0 (by decide)).1 (jinb_of (by decide)) (by decide) ((O 0 (by decide)).2 2) ?_
  refine x_aloadn (x := 0) rfl rfl ?_
  refine x_iloadn (x := 0) rfl rfl ?_
  refine x_iconst (v := 3) rfl ki_3 ?_
  refine y_iadd (v := 3) rfl (by decide) ?_
  refine y_iald (v := xs 3) (N := 7) 3 rfl (O 0 (by decide)).1 (jinb_of (by decide)) (by decide) ((O 0 (by decide)).2 3) ?_
  refine x_aloadn (x := 0) rfl rfl ?_
  refine x_iloadn (x := 0) rfl rfl ?_
  refine x_iconst (v := 4) rfl ki_4 ?_
  refine y_iadd (v := 4) rfl (by decide) ?_
  refine y_iald (v := xs 4) (N := 7) 4 rfl (O 0 (by decide)).1 (jinb_of (by decide)) (by decide) ((O 0 (by decide)).2 4) ?_
  refine x_inv (N := m_X11_close) (As := [.int (xs 1), .int (xs 2), .int (xs 3), .int (xs 4)]) (b := 31) (st := []) (d' := 100) (mc := 0) (ms := 0) (host := "") 11 rfl t_X11_close ⟨Or.inl q_13_202, i_X11_close.1, i_X11_close.2⟩ ⟨by decide, rfl⟩ (congrArg Prod.fst (F.1 31 (11, 13) rfl rfl)) rfl (by decide) rfl rfl ⟨by decide, by decide⟩ (px_close (xs 1) (xs 2) (xs 3) (xs 4) F O ?_)
  intro h2 F2 O2
  show jX m_L_law 1300 600000 7302249 2329 [(3, .int 0), (2, .ref 125), (1, .ref 31), (0, .ref 0)] [.int (sp_close (xs 1) (xs 2) (xs 3) (xs 4))] _ 143 360892 _
  refine x_aloadn (x := 125) rfl rfl ?_
  refine x_aloadn (x := 0) rfl rfl ?_
  refine x_iloadn (x := 0) rfl rfl ?_
  refine x_iconst (v := 1) rfl ki_1 ?_
  refine y_iadd (v := 1) rfl (by decide) ?_
  refine y_iald (v := xs 1) (N := 7) 1 rfl (O2 0 (by decide)).1 (jinb_of (by decide)) (by decide) ((O2 0 (by decide)).2 1) ?_
  refine x_aloadn (x := 0) rfl rfl ?_
  refine x_iloadn (x := 0) rfl rfl ?_
  refine x_iconst (v := 2) rfl ki_2 ?_
  refine y_iadd (v := 2) rfl (by decide) ?_
  refine y_iald (v := xs 2) (N := 7) 2 rfl (O2 0 (by decide)).1 (jinb_of (by decide)) (by decide) ((O2 0 (by decide)).2 2) ?_
  refine x_aloadn (x := 0) rfl rfl ?_
  refine x_iloadn (x := 0) rfl rfl ?_
  refine x_iconst (v := 3) rfl ki_3 ?_
  refine y_iadd (v := 3) rfl (by decide) ?_
  refine y_iald (v := xs 3) (N := 7) 3 rfl (O2 0 (by decide)).1 (jinb_of (by decide)) (by decide) ((O2 0 (by decide)).2 3) ?_
  refine x_aloadn (x := 0) rfl rfl ?_
  refine x_iloadn (x := 0) rfl rfl ?_
  refine x_iconst (v := 4) rfl ki_4 ?_
  refine y_iadd (v := 4) rfl (by decide) ?_
  refine y_iald (v := xs 4) (N := 7) 4 rfl (O2 0 (by decide)).1 (jinb_of (by decide)) (by decide) ((O2 0 (by decide)).2 4) ?_
  refine x_inv (N := m_X12_close_) (As := [.int (xs 1), .int (xs 2), .int (xs 3), .int (xs 4)]) (b := 125) (st := [.int (sp_close (xs 1) (xs 2) (xs 3) (xs 4))]) (d' := 100) (mc := 0) (ms := 0) (host := "") 12 rfl t_X12_close_ ⟨Or.inl q_13_205, i_X12_close_.1, i_X12_close_.2⟩ ⟨by decide, rfl⟩ (congrArg Prod.fst (F2.1 125 (12, 92) rfl rfl)) rfl (by decide) rfl rfl ⟨by decide, by decide⟩ (pm_close (xs 1) (xs 2) (xs 3) (xs 4) F2 O2 ?_)
  intro h3 O3
  show jX m_L_law 1300 600000 7302249 2353 [(3, .int 0), (2, .ref 125), (1, .ref 31), (0, .ref 0)] [.int (sp_close (xs 1) (xs 2) (xs 3) (xs 4)), .int (sp_close (xs 1) (xs 2) (xs 3) (xs 4))] _ 143 360892 _
  refine x_iceq (tgt := 2887) rfl rfl (br_t rfl ?_)
  refine x_iinc (x := 0) (v := 7) (ls' := [(3, .int 7), (2, .ref 125), (1, .ref 31), (0, .ref 0)]) rfl rfl (by decide) rfl rfl ?_
  refine x_goto (tgt := 18) rfl rfl ?_
  refine x_iloadn (x := 7) rfl rfl ?_
  refine x_aloadn (x := 0) rfl rfl ?_
  refine y_alen (N := 7) (v := 7) rfl (O3 0 (by decide)).1 (by decide) (by decide) ?_
  refine x_bipush (v := 7) rfl kb_7 ?_
  refine y_isub (v := 0) rfl (by decide) ?_
  refine x_icgt (tgt := 2893) rfl rfl (br_t (by decide) ?_)
  refine x_iconst (v := 1) rfl ki_1 ?_
  refine x_zret rfl rfl (by first | decide | exact jp_01 _) ?_
  exact hQ _
set_option maxRecDepth 100000 in
set_option maxHeartbeats 40000000 in
theorem cs_balance {xs : Nat → Int32} {h : jH} {Q : Option Value → jH → Prop} (F : jFb 31 h) (O : jOl 7 xs h) (hQ : ∀ h', Q (some (.int 1)) h') : jX m_L_law 1300 600000 7302249 2358 [(3, .int 0), (2, .ref 125), (1, .ref 31), (0, .ref 0)] [] h 143 360892 Q := by
  refine x_aloadn (x := 31) rfl rfl ?_
  refine x_aloadn (x := 0) rfl rfl ?_
  refine x_iloadn (x := 0) rfl rfl ?_
  refine x_iconst (v := 1) rfl ki_1 ?_
  refine y_iadd (v := 1) rfl (by decide) ?_
  refine y_iald (v := xs 1) (N := 7) 1 rfl (O 0 (by decide)).1 (jinb_of (by decide)) (by decide) ((O 0 (by decide)).2 1) ?_
  refine x_aloadn (x := 0) rfl rfl ?_
  refine x_iloadn (x := 0) rfl rfl ?_
  refine x_iconst (v := 2) rfl ki_2 ?_
  refine y_iadd (v := 2) rfl (by decide) ?_
  refine y_iald (v := xs 2) (N := 7) 2 rfl (O 0 (by decide)).1 (jinb_of (by decide)) (by decide) ((O 0 (by decide)).2 2) ?_
  refine x_aloadn (x := 0) rfl rfl ?_
  refine x_iloadn (x := 0) rfl rfl ?_
  refine x_iconst (v := 3) rfl ki_3 ?_
  refine y_iadd (v := 3) rfl (by decide) ?_
  refine y_iald (v := xs 3) (N := 7) 3 rfl (O 0 (by decide)).1 (jinb_of (by decide)) (by decide) ((O 0 (by decide)).2 3) ?_
  refine x_inv (N := m_X11_balance) (As := [.int (xs 1), .int (xs 2), .int (xs 3)]) (b := 31) (st := []) (d' := 100) (mc := 0) (ms := 0) (host := "") 11 rfl t_X11_balance ⟨Or.inl q_13_206, i_X11_balance.1, i_X11_balance.2⟩ ⟨by decide, rfl⟩ (congrArg Prod.fst (F.1 31 (11, 13) rfl rfl)) rfl (by decide) rfl rfl ⟨by decide, by decide⟩ (px_balance (xs 1) (xs 2) (xs 3) F O ?_)
  intro h2 F2 O2
  show jX m_L_law 1300 600000 7302249 2377 [(3, .int 0), (2, .ref 125), (1, .ref 31), (0, .ref 0)] [.int (sp_balance (xs 1) (xs 2) (xs 3))] _ 143 360892 _
  refine x_aloadn (x := 125) rfl rfl ?_
  refine x_aloadn (x := 0) rfl rfl ?_
  refine x_iloadn (x := 0) rfl rfl ?_
  refine x_iconst (v := 1) rfl ki_1 ?_
  refine y_iadd (v := 1) rfl (by decide) ?_
  refine y_iald (v := xs 1) (N := 7) 1 rfl (O2 0 (by decide)).1 (jinb_of (by decide)) (by decide) ((O2 0 (by decide)).2 1) ?_
  refine x_aloadn (x := 0) rfl rfl ?_
  refine x_iloadn (x := 0) rfl rfl ?_
  refine x_iconst (v := 2) rfl ki_2 ?_
  refine y_iadd (v := 2) rfl (by decide) ?_
  refine y_iald (v := xs 2) (N := 7) 2 rfl (O2 0 (by decide)).1 (jinb_of (by decide)) (by decide) ((O2 0 (by decide)).2 2) ?_
  refine x_aloadn (x := 0) rfl rfl ?_
  refine x_iloadn (x := 0) rfl rfl ?_
  refine x_iconst (v := 3) rfl ki_3 ?_
  refine y_iadd (v := 3) rfl (by decide) ?_
  refine y_iald (v := xs 3) (N := 7) 3 rfl (O2 0 (by decide)).1 (jinb_of (by decide)) (by decide) ((O2 0 (by decide)).2 3) ?_
  refine x_inv (N := m_X12_balance) (As := [.int (xs 1), .int (xs 2), .int (xs 3)]) (b := 125) (st := [.int (sp_balance (xs 1) (xs 2) (xs 3))]) (d' := 100) (mc := 0) (ms := 0) (host := "") 12 rfl t_X12_balance ⟨Or.inl q_13_209, i_X12_balance.1, i_X12_balance.2⟩ ⟨by decide, rfl⟩ (congrArg Prod.fst (F2.1 125 (12, 92) rfl rfl)) rfl (by decide) rfl rfl ⟨by decide, by decide⟩ (pm_balance (xs 1) (xs 2) (xs 3) F2 O2 ?_)
  intro h3 O3
  show jX m_L_law 1300 600000 7302249 2396 [(3, .int 0), (2, .ref 125), (1, .ref 31), (0, .ref 0)] [.int (sp_balance (xs 1) (xs 2) (xs 3)), .int (sp_balance (xs 1) (xs 2) (xs 3))] _ 143 360892 _
  refine x_iceq (tgt := 2887) rfl rfl (br_t rfl ?_)
  refine x_iinc (x := 0) (v := 7) (ls' := [(3, .int 7), (2, .ref 125), (1, .ref 31), (0, .ref 0)]) rfl rfl (by decide) rfl rfl ?_
  refine x_goto (tgt := 18) rfl rfl ?_
  refine x_iloadn (x := 7) rfl rfl ?_
  refine x_aloadn (x := 0) rfl rfl ?_
  refine y_alen (N := 7) (v := 7) rfl (O3 0 (by decide)).1 (by decide) (by decide) ?_
  refine x_bipush (v := 7) rfl kb_7 ?_
  refine y_isub (v := 0) rfl (by decide) ?_
  refine x_icgt (tgt := 2893) rfl rfl (br_t (by decide) ?_)
  refine x_iconst (v := 1) rfl ki_1 ?_
  refine x_zret rfl rfl (by first | decide | exact jp_01 _) ?_
  exact hQ _
set_option maxRecDepth 100000 in
set_option maxHeartbeats 40000000 in
theorem cs_beyond {xs : Nat → Int32} {h : jH} {Q : Option Value → jH → Prop} (F : jFb 31 h) (O : jOl 7 xs h) (hQ : ∀ h', Q (some (.int 1)) h') : jX m_L_law 1300 600000 7302249 2401 [(3, .int 0), (2, .ref 125), (1, .ref 31), (0, .ref 0)] [] h 143 360892 Q := by
  refine x_aloadn (x := 31) rfl rfl ?_
  refine x_aloadn (x := 0) rfl rfl ?_
  refine x_iloadn (x := 0) rfl rfl ?_
  refine x_iconst (v := 1) rfl ki_1 ?_
  refine y_iadd (v := 1) rfl (by decide) ?_
  refine y_iald (v := xs 1) (N := 7) 1 rfl (O 0 (by decide)).1 (jinb_of (by decide)) (by decide) ((O 0 (by decide)).2 1) ?_
  refine x_aloadn (x := 0) rfl rfl ?_
  refine x_iloadn (x := 0) rfl rfl ?_
  refine x_iconst (v := 2) rfl ki_2 ?_
  refine y_iadd (v := 2) rfl (by decide) ?_
  refine y_iald (v := xs 2) (N := 7) 2 rfl (O 0 (by decide)).1 (jinb_of (by decide)) (by decide) ((O 0 (by decide)).2 2) ?_
  refine x_inv (N := m_X11_beyond) (As := [.int (xs 1), .int (xs 2)]) (b := 31) (st := []) (d' := 100) (mc := 0) (ms := 0) (host := "") 11 rfl t_X11_beyond ⟨Or.inl q_13_210, i_X11_beyond.1, i_X11_beyond.2⟩ ⟨by decide, rfl⟩ (congrArg Prod.fst (F.1 31 (11, 13) rfl rfl)) rfl (by decide) rfl rfl ⟨by decide, by decide⟩ (px_beyond (xs 1) (xs 2) F O ?_)
  intro h2 F2 O2
  show jX m_L_law 1300 600000 7302249 2415 [(3, .int 0), (2, .ref 125), (1, .ref 31), (0, .ref 0)] [.int (sp_beyond (xs 1) (xs 2))] _ 143 360892 _
  refine x_aloadn (x := 125) rfl rfl ?_
  refine x_aloadn (x := 0) rfl rfl ?_
  refine x_iloadn (x := 0) rfl rfl ?_
  refine x_iconst (v := 1) rfl ki_1 ?_
  refine y_iadd (v := 1) rfl (by decide) ?_
  refine y_iald (v := xs 1) (N := 7) 1 rfl (O2 0 (by decide)).1 (jinb_of (by decide)) (by decide) ((O2 0 (by decide)).2 1) ?_
  refine x_aloadn (x := 0) rfl rfl ?_
  refine x_iloadn (x := 0) rfl rfl ?_
  refine x_iconst (v := 2) rfl ki_2 ?_
  refine y_iadd (v := 2) rfl (by decide) ?_
  refine y_iald (v := xs 2) (N := 7) 2 rfl (O2 0 (by decide)).1 (jinb_of (by decide)) (by decide) ((O2 0 (by decide)).2 2) ?_
  refine x_inv (N := m_X12_beyond) (As := [.int (xs 1), .int (xs 2)]) (b := 125) (st := [.int (sp_beyond (xs 1) (xs 2))]) (d' := 100) (mc := 0) (ms := 0) (host := "") 12 rfl t_X12_beyond ⟨Or.inl q_13_213, i_X12_beyond.1, i_X12_beyond.2⟩ ⟨by decide, rfl⟩ (congrArg Prod.fst (F2.1 125 (12, 92) rfl rfl)) rfl (by decide) rfl rfl ⟨by decide, by decide⟩ (pm_beyond (xs 1) (xs 2) F2 O2 ?_)
  intro h3 O3
  show jX m_L_law 1300 600000 7302249 2429 [(3, .int 0), (2, .ref 125), (1, .ref 31), (0, .ref 0)] [.int (sp_beyond (xs 1) (xs 2)), .int (sp_beyond (xs 1) (xs 2))] _ 143 360892 _
  refine x_iceq (tgt := 2887) rfl rfl (br_t rfl ?_)
  refine x_iinc (x := 0) (v := 7) (ls' := [(3, .int 7), (2, .ref 125), (1, .ref 31), (0, .ref 0)]) rfl rfl (by decide) rfl rfl ?_
  refine x_goto (tgt := 18) rfl rfl ?_
  refine x_iloadn (x := 7) rfl rfl ?_
  refine x_aloadn (x := 0) rfl rfl ?_
  refine y_alen (N := 7) (v := 7) rfl (O3 0 (by decide)).1 (by decide) (by decide) ?_
  refine x_bipush (v := 7) rfl kb_7 ?_
  refine y_isub (v := 0) rfl (by decide) ?_
  refine x_icgt (tgt := 2893) rfl rfl (br_t (by decide) ?_)
  refine x_iconst (v := 1) rfl ki_1 ?_
  refine x_zret rfl rfl (by first | decide | exact jp_01 _) ?_
  exact hQ _
set_option maxRecDepth 100000 in
set_option maxHeartbeats 40000000 in
theorem cs_badge {xs : Nat → Int32} {h : jH} {Q : Option Value → jH → Prop} (F : jFb 31 h) (O : jOl 7 xs h) (hQ : ∀ h', Q (some (.int 1)) h') : jX m_L_law 1300 600000 7302249 2434 [(3, .int 0), (2, .ref 125), (1, .ref 31), (0, .ref 0)] [] h 143 360892 Q := by
  refine x_aloadn (x := 31) rfl rfl ?_
  refine x_aloadn (x := 0) rfl rfl ?_
  refine x_iloadn (x := 0) rfl rfl ?_
  refine x_iconst (v := 1) rfl ki_1 ?_
  refine y_iadd (v := 1) rfl (by decide) ?_
  refine y_iald (v := xs 1) (N := 7) 1 rfl (O 0 (by decide)).1 (jinb_of (by decide)) (by decide) ((O 0 (by decide)).2 1) ?_
  refine x_aloadn (x := 0) rfl rfl ?_
  refine x_iloadn (x := 0) rfl rfl ?_
  refine x_iconst (v := 2) rfl ki_2 ?_
  refine y_iadd (v := 2) rfl (by decide) ?_
  refine y_iald (v := xs 2) (N := 7) 2 rfl (O 0 (by decide)).1 (jinb_of (by decide)) (by decide) ((O 0 (by decide)).2 2) ?_
  refine x_aloadn (x := 0) rfl rfl ?_
  refine x_iloadn (x := 0) rfl rfl ?_
  refine x_iconst (v := 3) rfl ki_3 ?_
  refine y_iadd (v := 3) rfl (by decide) ?_
  refine y_iald (v := xs 3) (N := 7) 3 rfl (O 0 (by decide)).1 (jinb_of (by decide)) (by decide) ((O 0 (by decide)).2 3) ?_
  refine x_inv (N := m_X11_badge) (As := [.int (xs 1), .int (xs 2), .int (xs 3)]) (b := 31) (st := []) (d' := 100) (mc := 0) (ms := 0) (host := "") 11 rfl t_X11_badge ⟨Or.inl q_13_214, i_X11_badge.1, i_X11_badge.2⟩ ⟨by decide, rfl⟩ (congrArg Prod.fst (F.1 31 (11, 13) rfl rfl)) rfl (by decide) rfl rfl ⟨by decide, by decide⟩ (px_badge (xs 1) (xs 2) (xs 3) F O ?_)
  intro h2 F2 O2
  show jX m_L_law 1300 600000 7302249 2453 [(3, .int 0), (2, .ref 125), (1, .ref 31), (0, .ref 0)] [.int (sp_badge (xs 1) (xs 2) (xs 3))] _ 143 360892 _
  refine x_aloadn (x := 125) rfl rfl ?_
  refine x_aloadn (x := 0) rfl rfl ?_
  refine x_iloadn (x := 0) rfl rfl ?_
  refine x_iconst (v := 1) rfl ki_1 ?_
  refine y_iadd (v := 1) rfl (by decide) ?_
  refine y_iald (v := xs 1) (N := 7) 1 rfl (O2 0 (by decide)).1 (jinb_of (by decide)) (by decide) ((O2 0 (by decide)).2 1) ?_
  refine x_aloadn (x := 0) rfl rfl ?_
  refine x_iloadn (x := 0) rfl rfl ?_
  refine x_iconst (v := 2) rfl ki_2 ?_
  refine y_iadd (v := 2) rfl (by decide) ?_
  refine y_iald (v := xs 2) (N := 7) 2 rfl (O2 0 (by decide)).1 (jinb_of (by decide)) (by decide) ((O2 0 (by decide)).2 2) ?_
  refine x_aloadn (x := 0) rfl rfl ?_
  refine x_iloadn (x := 0) rfl rfl ?_
  refine x_iconst (v := 3) rfl ki_3 ?_
  refine y_iadd (v := 3) rfl (by decide) ?_
  refine y_iald (v := xs 3) (N := 7) 3 rfl (O2 0 (by decide)).1 (jinb_of (by decide)) (by decide) ((O2 0 (by decide)).2 3) ?_
  refine x_inv (N := m_X12_badge) (As := [.int (xs 1), .int (xs 2), .int (xs 3)]) (b := 125) (st := [.int (sp_badge (xs 1) (xs 2) (xs 3))]) (d' := 100) (mc := 0) (ms := 0) (host := "") 12 rfl t_X12_badge ⟨Or.inl q_13_217, i_X12_badge.1, i_X12_badge.2⟩ ⟨by decide, rfl⟩ (congrArg Prod.fst (F2.1 125 (12, 92) rfl rfl)) rfl (by decide) rfl rfl ⟨by decide, by decide⟩ (pm_badge (xs 1) (xs 2) (xs 3) F2 O2 ?_)
  intro h3 O3
  show jX m_L_law 1300 600000 7302249 2472 [(3, .int 0), (2, .ref 125), (1, .ref 31), (0, .ref 0)] [.int (sp_badge (xs 1) (xs 2) (xs 3)), .int (sp_badge (xs 1) (xs 2) (xs 3))] _ 143 360892 _
  refine x_iceq (tgt := 2887) rfl rfl (br_t rfl ?_)
  refine x_iinc (x := 0) (v := 7) (ls' := [(3, .int 7), (2, .ref 125), (1, .ref 31), (0, .ref 0)]) rfl rfl (by decide) rfl rfl ?_
  refine x_goto (tgt := 18) rfl rfl ?_
  refine x_iloadn (x := 7) rfl rfl ?_
  refine x_aloadn (x := 0) rfl rfl ?_
  refine y_alen (N := 7) (v := 7) rfl (O3 0 (by decide)).1 (by decide) (by decide) ?_
  refine x_bipush (v := 7) rfl kb_7 ?_
  refine y_isub (v := 0) rfl (by decide) ?_
  refine x_icgt (tgt := 2893) rfl rfl (br_t (by decide) ?_)
  refine x_iconst (v := 1) rfl ki_1 ?_
  refine x_zret rfl rfl (by first | decide | exact jp_01 _) ?_
  exact hQ _
set_option maxRecDepth 100000 in
set_option maxHeartbeats 40000000 in
theorem cs_seat {xs : Nat → Int32} {h : jH} {Q : Option Value → jH → Prop} (F : jFb 31 h) (O : jOl 7 xs h) (hQ : ∀ h', Q (some (.int 1)) h') : jX m_L_law 1300 600000 7302249 2477 [(3, .int 0), (2, .ref 125), (1, .ref 31), (0, .ref 0)] [] h 143 360892 Q := by
  refine x_aloadn (x := 31) rfl rfl ?_
  refine x_aloadn (x := 0) rfl rfl ?_
  refine x_iloadn (x := 0) rfl rfl ?_
  refine x_iconst (v := 1) rfl ki_1 ?_
  refine y_iadd (v := 1) rfl (by decide) ?_
  refine y_iald (v := xs 1) (N := 7) 1 rfl (O 0 (by decide)).1 (jinb_of (by decide)) (by decide) ((O 0 (by decide)).2 1) ?_
  refine x_aloadn (x := 0) rfl rfl ?_
  refine x_iloadn (x := 0) rfl rfl ?_
  refine x_iconst (v := 2) rfl ki_2 ?_
  refine y_iadd (v := 2) rfl (by decide) ?_
  refine y_iald (v := xs 2) (N := 7) 2 rfl (O 0 (by decide)).1 (jinb_of (by decide)) (by decide) ((O 0 (by decide)).2 2) ?_
  refine x_aloadn (x := 0) rfl rfl ?_
  refine x_iloadn (x := 0) rfl rfl ?_
  refine x_iconst (v := 3) rfl ki_3 ?_
  refine y_iadd (v := 3) rfl (by decide) ?_
  refine y_iald (v := xs 3) (N := 7) 3 rfl (O 0 (by decide)).1 (jinb_of (by decide)) (by decide) ((O 0 (by decide)).2 3) ?_
  refine x_inv (N := m_X11_seat) (As := [.int (xs 1), .int (xs 2), .int (xs 3)]) (b := 31) (st := []) (d' := 100) (mc := 0) (ms := 0) (host := "") 11 rfl t_X11_seat ⟨Or.inl q_13_218, i_X11_seat.1, i_X11_seat.2⟩ ⟨by decide, rfl⟩ (congrArg Prod.fst (F.1 31 (11, 13) rfl rfl)) rfl (by decide) rfl rfl ⟨by decide, by decide⟩ (px_seat (xs 1) (xs 2) (xs 3) F O ?_)
  intro h2 F2 O2
  show jX m_L_law 1300 600000 7302249 2496 [(3, .int 0), (2, .ref 125), (1, .ref 31), (0, .ref 0)] [.int (sp_seat (xs 1) (xs 2) (xs 3))] _ 143 360892 _
  refine x_aloadn (x := 125) rfl rfl ?_
  refine x_aloadn (x := 0) rfl rfl ?_
  refine x_iloadn (x := 0) rfl rfl ?_
  refine x_iconst (v := 1) rfl ki_1 ?_
  refine y_iadd (v := 1) rfl (by decide) ?_
  refine y_iald (v := xs 1) (N := 7) 1 rfl (O2 0 (by decide)).1 (jinb_of (by decide)) (by decide) ((O2 0 (by decide)).2 1) ?_
  refine x_aloadn (x := 0) rfl rfl ?_
  refine x_iloadn (x := 0) rfl rfl ?_
  refine x_iconst (v := 2) rfl ki_2 ?_
  refine y_iadd (v := 2) rfl (by decide) ?_
  refine y_iald (v := xs 2) (N := 7) 2 rfl (O2 0 (by decide)).1 (jinb_of (by decide)) (by decide) ((O2 0 (by decide)).2 2) ?_
  refine x_aloadn (x := 0) rfl rfl ?_
  refine x_iloadn (x := 0) rfl rfl ?_
  refine x_iconst (v := 3) rfl ki_3 ?_
  refine y_iadd (v := 3) rfl (by decide) ?_
  refine y_iald (v := xs 3) (N := 7) 3 rfl (O2 0 (by decide)).1 (jinb_of (by decide)) (by decide) ((O2 0 (by decide)).2 3) ?_
  refine x_inv (N := m_X12_seat) (As := [.int (xs 1), .int (xs 2), .int (xs 3)]) (b := 125) (st := [.int (sp_seat (xs 1) (xs 2) (xs 3))]) (d' := 100) (mc := 0) (ms := 0) (host := "") 12 rfl t_X12_seat ⟨Or.inl q_13_221, i_X12_seat.1, i_X12_seat.2⟩ ⟨by decide, rfl⟩ (congrArg Prod.fst (F2.1 125 (12, 92) rfl rfl)) rfl (by decide) rfl rfl ⟨by decide, by decide⟩ (pm_seat (xs 1) (xs 2) (xs 3) F2 O2 ?_)
  intro h3 O3
  show jX m_L_law 1300 600000 7302249 2515 [(3, .int 0), (2, .ref 125), (1, .ref 31), (0, .ref 0)] [.int (sp_seat (xs 1) (xs 2) (xs 3)), .int (sp_seat (xs 1) (xs 2) (xs 3))] _ 143 360892 _
  refine x_iceq (tgt := 2887) rfl rfl (br_t rfl ?_)
  refine x_iinc (x := 0) (v := 7) (ls' := [(3, .int 7), (2, .ref 125), (1, .ref 31), (0, .ref 0)]) rfl rfl (by decide) rfl rfl ?_
  refine x_goto (tgt := 18) rfl rfl ?_
  refine x_iloadn (x := 7) rfl rfl ?_
  refine x_aloadn (x := 0) rfl rfl ?_
  refine y_alen (N := 7) (v := 7) rfl (O3 0 (by decide)).1 (by decide) (by decide) ?_
  refine x_bipush (v := 7) rfl kb_7 ?_
  refine y_isub (v := 0) rfl (by decide) ?_
  refine x_icgt (tgt := 2893) rfl rfl (br_t (by decide) ?_)
  refine x_iconst (v := 1) rfl ki_1 ?_
  refine x_zret rfl rfl (by first | decide | exact jp_01 _) ?_
  exact hQ _
set_option maxRecDepth 100000 in
set_option maxHeartbeats 40000000 in
theorem cs_fee {xs : Nat → Int32} {h : jH} {Q : Option Value → jH → Prop} (F : jFb 31 h) (O : jOl 7 xs h) (hQ : ∀ h', Q (some (.int 1)) h') : jX m_L_law 1300 600000 7302249 2520 [(3, .int 0), (2, .ref 125), (1, .ref 31), (0, .ref 0)] [] h 143 360892 Q := by
  refine x_aloadn (x := 31) rfl rfl ?_
  refine x_aloadn (x := 0) rfl rfl ?_
  refine x_iloadn (x := 0) rfl rfl ?_
  refine x_iconst (v := 1) rfl ki_1 ?_
  refine y_iadd (v := 1) rfl (by decide) ?_
  refine y_iald (v := xs 1) (N := 7) 1 rfl (O 0 (by decide)).1 (jinb_of (by decide)) (by decide) ((O 0 (by decide)).2 1) ?_
  refine x_aloadn (x := 0) rfl rfl ?_
  refine x_iloadn (x := 0) rfl rfl ?_
  refine x_iconst (v := 2) rfl ki_2 ?_
  refine y_iadd (v := 2) rfl (by decide) ?_
  refine y_iald (v := xs 2) (N := 7) 2 rfl (O 0 (by decide)).1 (jinb_of (by decide)) (by decide) ((O 0 (by decide)).2 2) ?_
  refine x_inv (N := m_X11_fee) (As := [.int (xs 1), .int (xs 2)]) (b := 31) (st := []) (d' := 100) (mc := 0) (ms := 0) (host := "") 11 rfl t_X11_fee ⟨Or.inl q_13_222, i_X11_fee.1, i_X11_fee.2⟩ ⟨by decide, rfl⟩ (congrArg Prod.fst (F.1 31 (11, 13) rfl rfl)) rfl (by decide) rfl rfl ⟨by decide, by decide⟩ (px_fee (xs 1) (xs 2) F O ?_)
  intro h2 F2 O2
  show jX m_L_law 1300 600000 7302249 2534 [(3, .int 0), (2, .ref 125), (1, .ref 31), (0, .ref 0)] [.long (sp_fee (xs 1) (xs 2))] _ 143 360892 _
  refine x_aloadn (x := 125) rfl rfl ?_
  refine x_aloadn (x := 0) rfl rfl ?_
  refine x_iloadn (x := 0) rfl rfl ?_
  refine x_iconst (v := 1) rfl ki_1 ?_
  refine y_iadd (v := 1) rfl (by decide) ?_
  refine y_iald (v := xs 1) (N := 7) 1 rfl (O2 0 (by decide)).1 (jinb_of (by decide)) (by decide) ((O2 0 (by decide)).2 1) ?_
  refine x_aloadn (x := 0) rfl rfl ?_
  refine x_iloadn (x := 0) rfl rfl ?_
  refine x_iconst (v := 2) rfl ki_2 ?_
  refine y_iadd (v := 2) rfl (by decide) ?_
  refine y_iald (v := xs 2) (N := 7) 2 rfl (O2 0 (by decide)).1 (jinb_of (by decide)) (by decide) ((O2 0 (by decide)).2 2) ?_
  refine x_inv (N := m_X12_fee) (As := [.int (xs 1), .int (xs 2)]) (b := 125) (st := [.long (sp_fee (xs 1) (xs 2))]) (d' := 100) (mc := 0) (ms := 0) (host := "") 12 rfl t_X12_fee ⟨Or.inl q_13_226, i_X12_fee.1, i_X12_fee.2⟩ ⟨by decide, rfl⟩ (congrArg Prod.fst (F2.1 125 (12, 92) rfl rfl)) rfl (by decide) rfl rfl ⟨by decide, by decide⟩ (pm_fee (xs 1) (xs 2) F2 O2 ?_)
  intro h3 O3
  show jX m_L_law 1300 600000 7302249 2548 [(3, .int 0), (2, .ref 125), (1, .ref 31), (0, .ref 0)] [.long (sp_fee (xs 1) (xs 2)), .long (sp_fee (xs 1) (xs 2))] _ 143 360892 _
  refine y_lcmp (v := 0) rfl (jlg_self _) ?_
  refine x_ifeq (tgt := 2887) rfl rfl (br_t (by decide) ?_)
  refine x_iinc (x := 0) (v := 7) (ls' := [(3, .int 7), (2, .ref 125), (1, .ref 31), (0, .ref 0)]) rfl rfl (by decide) rfl rfl ?_
  refine x_goto (tgt := 18) rfl rfl ?_
  refine x_iloadn (x := 7) rfl rfl ?_
  refine x_aloadn (x := 0) rfl rfl ?_
  refine y_alen (N := 7) (v := 7) rfl (O3 0 (by decide)).1 (by decide) (by decide) ?_
  refine x_bipush (v := 7) rfl kb_7 ?_
  refine y_isub (v := 0) rfl (by decide) ?_
  refine x_icgt (tgt := 2893) rfl rfl (br_t (by decide) ?_)
  refine x_iconst (v := 1) rfl ki_1 ?_
  refine x_zret rfl rfl (by first | decide | exact jp_01 _) ?_
  exact hQ _
set_option maxRecDepth 100000 in
set_option maxHeartbeats 40000000 in
theorem cs_acres {xs : Nat → Int32} {h : jH} {Q : Option Value → jH → Prop} (F : jFb 31 h) (O : jOl 7 xs h) (hQ : ∀ h', Q (some (.int 1)) h') : jX m_L_law 1300 600000 7302249 2554 [(3, .int 0), (2, .ref 125), (1, .ref 31), (0, .ref 0)] [] h 143 360892 Q := by
  refine x_aloadn (x := 31) rfl rfl ?_
  refine x_aloadn (x := 0) rfl rfl ?_
  refine x_iloadn (x := 0) rfl rfl ?_
  refine x_iconst (v := 1) rfl ki_1 ?_
  refine y_iadd (v := 1) rfl (by decide) ?_
  refine y_iald (v := xs 1) (N := 7) 1 rfl (O 0 (by decide)).1 (jinb_of (by decide)) (by decide) ((O 0 (by decide)).2 1) ?_
  refine x_aloadn (x := 0) rfl rfl ?_
  refine x_iloadn (x := 0) rfl rfl ?_
  refine x_iconst (v := 2) rfl ki_2 ?_
  refine y_iadd (v := 2) rfl (by decide) ?_
  refine y_iald (v := xs 2) (N := 7) 2 rfl (O 0 (by decide)).1 (jinb_of (by decide)) (by decide) ((O 0 (by decide)).2 2) ?_
  refine x_aloadn (x := 0) rfl rfl ?_
  refine x_iloadn (x := 0) rfl rfl ?_
  refine x_iconst (v := 3) rfl ki_3 ?_
  refine y_iadd (v := 3) rfl (by decide) ?_
  refine y_iald (v := xs 3) (N := 7) 3 rfl (O 0 (by decide)).1 (jinb_of (by decide)) (by decide) ((O 0 (by decide)).2 3) ?_
  refine x_inv (N := m_X11_acres) (As := [.int (xs 1), .int (xs 2), .int (xs 3)]) (b := 31) (st := []) (d' := 100) (mc := 0) (ms := 0) (host := "") 11 rfl t_X11_acres ⟨Or.inl q_13_227, i_X11_acres.1, i_X11_acres.2⟩ ⟨by decide, rfl⟩ (congrArg Prod.fst (F.1 31 (11, 13) rfl rfl)) rfl (by decide) rfl rfl ⟨by decide, by decide⟩ (px_acres (xs 1) (xs 2) (xs 3) F O ?_)
  intro h2 F2 O2
  show jX m_L_law 1300 600000 7302249 2573 [(3, .int 0), (2, .ref 125), (1, .ref 31), (0, .ref 0)] [.int (sp_acres (xs 1) (xs 2) (xs 3))] _ 143 360892 _
  refine x_aloadn (x := 125) rfl rfl ?_
  refine x_aloadn (x := 0) rfl rfl ?_
  refine x_iloadn (x := 0) rfl rfl ?_
  refine x_iconst (v := 1) rfl ki_1 ?_
  refine y_iadd (v := 1) rfl (by decide) ?_
  refine y_iald (v := xs 1) (N := 7) 1 rfl (O2 0 (by decide)).1 (jinb_of (by decide)) (by decide) ((O2 0 (by decide)).2 1) ?_
  refine x_aloadn (x := 0) rfl rfl ?_
  refine x_iloadn (x := 0) rfl rfl ?_
  refine x_iconst (v := 2) rfl ki_2 ?_
  refine y_iadd (v := 2) rfl (by decide) ?_
  refine y_iald (v := xs 2) (N := 7) 2 rfl (O2 0 (by decide)).1 (jinb_of (by decide)) (by decide) ((O2 0 (by decide)).2 2) ?_
  refine x_aloadn (x := 0) rfl rfl ?_
  refine x_iloadn (x := 0) rfl rfl ?_
  refine x_iconst (v := 3) rfl ki_3 ?_
  refine y_iadd (v := 3) rfl (by decide) ?_
  refine y_iald (v := xs 3) (N := 7) 3 rfl (O2 0 (by decide)).1 (jinb_of (by decide)) (by decide) ((O2 0 (by decide)).2 3) ?_
  refine x_inv (N := m_X12_acres) (As := [.int (xs 1), .int (xs 2), .int (xs 3)]) (b := 125) (st := [.int (sp_acres (xs 1) (xs 2) (xs 3))]) (d' := 100) (mc := 0) (ms := 0) (host := "") 12 rfl t_X12_acres ⟨Or.inl q_13_230, i_X12_acres.1, i_X12_acres.2⟩ ⟨by decide, rfl⟩ (congrArg Prod.fst (F2.1 125 (12, 92) rfl rfl)) rfl (by decide) rfl rfl ⟨by decide, by decide⟩ (pm_acres (xs 1) (xs 2) (xs 3) F2 O2 ?_)
  intro h3 O3
  show jX m_L_law 1300 600000 7302249 2592 [(3, .int 0), (2, .ref 125), (1, .ref 31), (0, .ref 0)] [.int (sp_acres (xs 1) (xs 2) (xs 3)), .int (sp_acres (xs 1) (xs 2) (xs 3))] _ 143 360892 _
  refine x_iceq (tgt := 2887) rfl rfl (br_t rfl ?_)
  refine x_iinc (x := 0) (v := 7) (ls' := [(3, .int 7), (2, .ref 125), (1, .ref 31), (0, .ref 0)]) rfl rfl (by decide) rfl rfl ?_
  refine x_goto (tgt := 18) rfl rfl ?_
  refine x_iloadn (x := 7) rfl rfl ?_
  refine x_aloadn (x := 0) rfl rfl ?_
  refine y_alen (N := 7) (v := 7) rfl (O3 0 (by decide)).1 (by decide) (by decide) ?_
  refine x_bipush (v := 7) rfl kb_7 ?_
  refine y_isub (v := 0) rfl (by decide) ?_
  refine x_icgt (tgt := 2893) rfl rfl (br_t (by decide) ?_)
  refine x_iconst (v := 1) rfl ki_1 ?_
  refine x_zret rfl rfl (by first | decide | exact jp_01 _) ?_
  exact hQ _
set_option maxRecDepth 100000 in
set_option maxHeartbeats 40000000 in
theorem cs_price {xs : Nat → Int32} {h : jH} {Q : Option Value → jH → Prop} (F : jFb 31 h) (O : jOl 7 xs h) (hQ : ∀ h', Q (some (.int 1)) h') : jX m_L_law 1300 600000 7302249 2597 [(3, .int 0), (2, .ref 125), (1, .ref 31), (0, .ref 0)] [] h 143 360892 Q := by
  refine x_aloadn (x := 31) rfl rfl ?_
  refine x_aloadn (x := 0) rfl rfl ?_
  refine x_iloadn (x := 0) rfl rfl ?_
  refine x_iconst (v := 1) rfl ki_1 ?_
  refine y_iadd (v := 1) rfl (by decide) ?_
  refine y_iald (v := xs 1) (N := 7) 1 rfl (O 0 (by decide)).1 (jinb_of (by decide)) (by decide) ((O 0 (by decide)).2 1) ?_
  refine x_aloadn (x := 0) rfl rfl ?_
  refine x_iloadn (x := 0) rfl rfl ?_
  refine x_iconst (v := 2) rfl ki_2 ?_
  refine y_iadd (v := 2) rfl (by decide) ?_
  refine y_iald (v := xs 2) (N := 7) 2 rfl (O 0 (by decide)).1 (jinb_of (by decide)) (by decide) ((O 0 (by decide)).2 2) ?_
  refine x_aloadn (x := 0) rfl rfl ?_
  refine x_iloadn (x := 0) rfl rfl ?_
  refine x_iconst (v := 3) rfl ki_3 ?_
  refine y_iadd (v := 3) rfl (by decide) ?_
  refine y_iald (v := xs 3) (N := 7) 3 rfl (O 0 (by decide)).1 (jinb_of (by decide)) (by decide) ((O 0 (by decide)).2 3) ?_
  refine x_aloadn (x := 0) rfl rfl ?_
  refine x_iloadn (x := 0) rfl rfl ?_
  refine x_iconst (v := 4) rfl ki_4 ?_
  refine y_iadd (v := 4) rfl (by decide) ?_
  refine y_iald (v := xs 4) (N := 7) 4 rfl (O 0 (by decide)).1 (jinb_of (by decide)) (by decide) ((O 0 (by decide)).2 4) ?_
  refine x_inv (N := m_X11_price) (As := [.int (xs 1), .int (xs 2), .int (xs 3), .int (xs 4)]) (b := 31) (st := []) (d' := 100) (mc := 0) (ms := 0) (host := "") 11 rfl t_X11_price ⟨Or.inl q_13_231, i_X11_price.1, i_X11_price.2⟩ ⟨by decide, rfl⟩ (congrArg Prod.fst (F.1 31 (11, 13) rfl rfl)) rfl (by decide) rfl rfl ⟨by decide, by decide⟩ (px_price (xs 1) (xs 2) (xs 3) (xs 4) F O ?_)
  intro h2 F2 O2
  show jX m_L_law 1300 600000 7302249 2621 [(3, .int 0), (2, .ref 125), (1, .ref 31), (0, .ref 0)] [.int (sp_price (xs 1) (xs 2) (xs 3) (xs 4))] _ 143 360892 _
  refine x_aloadn (x := 125) rfl rfl ?_
  refine x_aloadn (x := 0) rfl rfl ?_
  refine x_iloadn (x := 0) rfl rfl ?_
  refine x_iconst (v := 1) rfl ki_1 ?_
  refine y_iadd (v := 1) rfl (by decide) ?_
  refine y_iald (v := xs 1) (N := 7) 1 rfl (O2 0 (by decide)).1 (jinb_of (by decide)) (by decide) ((O2 0 (by decide)).2 1) ?_
  refine x_aloadn (x := 0) rfl rfl ?_
  refine x_iloadn (x := 0) rfl rfl ?_
  refine x_iconst (v := 2) rfl ki_2 ?_
  refine y_iadd (v := 2) rfl (by decide) ?_
  refine y_iald (v := xs 2) (N := 7) 2 rfl (O2 0 (by decide)).1 (jinb_of (by decide)) (by decide) ((O2 0 (by decide)).2 2) ?_
  refine x_aloadn (x := 0) rfl rfl ?_
  refine x_iloadn (x := 0) rfl rfl ?_
  refine x_iconst (v := 3) rfl ki_3 ?_
  refine y_iadd (v := 3) rfl (by decide) ?_
  refine y_iald (v := xs 3) (N := 7) 3 rfl (O2 0 (by decide)).1 (jinb_of (by decide)) (by decide) ((O2 0 (by decide)).2 3) ?_
  refine x_aloadn (x := 0) rfl rfl ?_
  refine x_iloadn (x := 0) rfl rfl ?_
  refine x_iconst (v := 4) rfl ki_4 ?_
  refine y_iadd (v := 4) rfl (by decide) ?_
  refine y_iald (v := xs 4) (N := 7) 4 rfl (O2 0 (by decide)).1 (jinb_of (by decide)) (by decide) ((O2 0 (by decide)).2 4) ?_
  refine x_inv (N := m_X12_price) (As := [.int (xs 1), .int (xs 2), .int (xs 3), .int (xs 4)]) (b := 125) (st := [.int (sp_price (xs 1) (xs 2) (xs 3) (xs 4))]) (d' := 100) (mc := 0) (ms := 0) (host := "") 12 rfl t_X12_price ⟨Or.inl q_13_234, i_X12_price.1, i_X12_price.2⟩ ⟨by decide, rfl⟩ (congrArg Prod.fst (F2.1 125 (12, 92) rfl rfl)) rfl (by decide) rfl rfl ⟨by decide, by decide⟩ (pm_price (xs 1) (xs 2) (xs 3) (xs 4) F2 O2 ?_)
  intro h3 O3
  show jX m_L_law 1300 600000 7302249 2645 [(3, .int 0), (2, .ref 125), (1, .ref 31), (0, .ref 0)] [.int (sp_price (xs 1) (xs 2) (xs 3) (xs 4)), .int (sp_price (xs 1) (xs 2) (xs 3) (xs 4))] _ 143 360892 _
  refine x_iceq (tgt := 2887) rfl rfl (br_t rfl ?_)
  refine x_iinc (x := 0) (v := 7) (ls' := [(3, .int 7), (2, .ref 125), (1, .ref 31), (0, .ref 0)]) rfl rfl (by decide) rfl rfl ?_
  refine x_goto (tgt := 18) rfl rfl ?_
  refine x_iloadn (x := 7) rfl rfl ?_
  refine x_aloadn (x := 0) rfl rfl ?_
  refine y_alen (N := 7) (v := 7) rfl (O3 0 (by decide)).1 (by decide) (by decide) ?_
  refine x_bipush (v := 7) rfl kb_7 ?_
  refine y_isub (v := 0) rfl (by decide) ?_
  refine x_icgt (tgt := 2893) rfl rfl (br_t (by decide) ?_)
  refine x_iconst (v := 1) rfl ki_1 ?_
  refine x_zret rfl rfl (by first | decide | exact jp_01 _) ?_
  exact hQ _
set_option maxRecDepth 100000 in
set_option maxHeartbeats 40000000 in
theorem cs_coin {xs : Nat → Int32} {h : jH} {Q : Option Value → jH → Prop} (F : jFb 31 h) (O : jOl 7 xs h) (hQ : ∀ h', Q (some (.int 1)) h') : jX m_L_law 1300 600000 7302249 2650 [(3, .int 0), (2, .ref 125), (1, .ref 31), (0, .ref 0)] [] h 143 360892 Q := by
  refine x_aloadn (x := 31) rfl rfl ?_
  refine x_aloadn (x := 0) rfl rfl ?_
  refine x_iloadn (x := 0) rfl rfl ?_
  refine x_iconst (v := 1) rfl ki_1 ?_
  refine y_iadd (v := 1) rfl (by decide) ?_
  refine y_iald (v := xs 1) (N := 7) 1 rfl (O 0 (by decide)).1 (jinb_of (by decide)) (by decide) ((O 0 (by decide)).2 1) ?_
  refine x_aloadn (x := 0) rfl rfl ?_
  refine x_iloadn (x := 0) rfl rfl ?_
  refine x_iconst (v := 2) rfl ki_2 ?_
  refine y_iadd (v := 2) rfl (by decide) ?_
  refine y_iald (v := xs 2) (N := 7) 2 rfl (O 0 (by decide)).1 (jinb_of (by decide)) (by decide) ((O 0 (by decide)).2 2) ?_
  refine x_aloadn (x := 0) rfl rfl ?_
  refine x_iloadn (x := 0) rfl rfl ?_
  refine x_iconst (v := 3) rfl ki_3 ?_
  refine y_iadd (v := 3) rfl (by decide) ?_
  refine y_iald (v := xs 3) (N := 7) 3 rfl (O 0 (by decide)).1 (jinb_of (by decide)) (by decide) ((O 0 (by decide)).2 3) ?_
  refine x_inv (N := m_X11_coin) (As := [.int (xs 1), .int (xs 2), .int (xs 3)]) (b := 31) (st := []) (d' := 100) (mc := 0) (ms := 0) (host := "") 11 rfl t_X11_coin ⟨Or.inl q_13_235, i_X11_coin.1, i_X11_coin.2⟩ ⟨by decide, rfl⟩ (congrArg Prod.fst (F.1 31 (11, 13) rfl rfl)) rfl (by decide) rfl rfl ⟨by decide, by decide⟩ (px_coin (xs 1) (xs 2) (xs 3) F O ?_)
  intro h2 F2 O2
  show jX m_L_law 1300 600000 7302249 2669 [(3, .int 0), (2, .ref 125), (1, .ref 31), (0, .ref 0)] [.int (sp_coin (xs 1) (xs 2) (xs 3))] _ 143 360892 _
  refine x_aloadn (x := 125) rfl rfl ?_
  refine x_aloadn (x := 0) rfl rfl ?_
  refine x_iloadn (x := 0) rfl rfl ?_
  refine x_iconst (v := 1) rfl ki_1 ?_
  refine y_iadd (v := 1) rfl (by decide) ?_
  refine y_iald (v := xs 1) (N := 7) 1 rfl (O2 0 (by decide)).1 (jinb_of (by decide)) (by decide) ((O2 0 (by decide)).2 1) ?_
  refine x_aloadn (x := 0) rfl rfl ?_
  refine x_iloadn (x := 0) rfl rfl ?_
  refine x_iconst (v := 2) rfl ki_2 ?_
  refine y_iadd (v := 2) rfl (by decide) ?_
  refine y_iald (v := xs 2) (N := 7) 2 rfl (O2 0 (by decide)).1 (jinb_of (by decide)) (by decide) ((O2 0 (by decide)).2 2) ?_
  refine x_aloadn (x := 0) rfl rfl ?_
  refine x_iloadn (x := 0) rfl rfl ?_
  refine x_iconst (v := 3) rfl ki_3 ?_
  refine y_iadd (v := 3) rfl (by decide) ?_
  refine y_iald (v := xs 3) (N := 7) 3 rfl (O2 0 (by decide)).1 (jinb_of (by decide)) (by decide) ((O2 0 (by decide)).2 3) ?_
  refine x_inv (N := m_X12_coin) (As := [.int (xs 1), .int (xs 2), .int (xs 3)]) (b := 125) (st := [.int (sp_coin (xs 1) (xs 2) (xs 3))]) (d' := 100) (mc := 0) (ms := 0) (host := "") 12 rfl t_X12_coin ⟨Or.inl q_13_238, i_X12_coin.1, i_X12_coin.2⟩ ⟨by decide, rfl⟩ (congrArg Prod.fst (F2.1 125 (12, 92) rfl rfl)) rfl (by decide) rfl rfl ⟨by decide, by decide⟩ (pm_coin (xs 1) (xs 2) (xs 3) F2 O2 ?_)
  intro h3 O3
  show jX m_L_law 1300 600000 7302249 2688 [(3, .int 0), (2, .ref 125), (1, .ref 31), (0, .ref 0)] [.int (sp_coin (xs 1) (xs 2) (xs 3)), .int (sp_coin (xs 1) (xs 2) (xs 3))] _ 143 360892 _
  refine x_iceq (tgt := 2887) rfl rfl (br_t rfl ?_)
  refine x_iinc (x := 0) (v := 7) (ls' := [(3, .int 7), (2, .ref 125), (1, .ref 31), (0, .ref 0)]) rfl rfl (by decide) rfl rfl ?_
  refine x_goto (tgt := 18) rfl rfl ?_
  refine x_iloadn (x := 7) rfl rfl ?_
  refine x_aloadn (x := 0) rfl rfl ?_
  refine y_alen (N := 7) (v := 7) rfl (O3 0 (by decide)).1 (by decide) (by decide) ?_
  refine x_bipush (v := 7) rfl kb_7 ?_
  refine y_isub (v := 0) rfl (by decide) ?_
  refine x_icgt (tgt := 2893) rfl rfl (br_t (by decide) ?_)
  refine x_iconst (v := 1) rfl ki_1 ?_
  refine x_zret rfl rfl (by first | decide | exact jp_01 _) ?_
  exact hQ _
set_option maxRecDepth 100000 in
set_option maxHeartbeats 40000000 in
theorem cs_seal {xs : Nat → Int32} {h : jH} {Q : Option Value → jH → Prop} (F : jFb 31 h) (O : jOl 7 xs h) (hQ : ∀ h', Q (some (.int 1)) h') : jX m_L_law 1300 600000 7302249 2693 [(3, .int 0), (2, .ref 125), (1, .ref 31), (0, .ref 0)] [] h 143 360892 Q := by
  refine x_aloadn (x := 31) rfl rfl ?_
  refine x_aloadn (x := 0) rfl rfl ?_
  refine x_iloadn (x := 0) rfl rfl ?_
  refine x_iconst (v := 1) rfl ki_1 ?_
  refine y_iadd (v := 1) rfl (by decide) ?_
  refine y_iald (v := xs 1) (N := 7) 1 rfl (O 0 (by decide)).1 (jinb_of (by decide)) (by decide) ((O 0 (by decide)).2 1) ?_
  refine x_inv (N := m_X11_seal) (As := [.int (xs 1)]) (b := 31) (st := []) (d' := 100) (mc := 0) (ms := 0) (host := "") 11 rfl t_X11_seal ⟨Or.inl q_13_239, i_X11_seal.1, i_X11_seal.2⟩ ⟨by decide, rfl⟩ (congrArg Prod.fst (F.1 31 (11, 13) rfl rfl)) rfl (by decide) rfl rfl ⟨by decide, by decide⟩ (px_seal (xs 1) F O ?_)
  intro h2 F2 O2
  show jX m_L_law 1300 600000 7302249 2702 [(3, .int 0), (2, .ref 125), (1, .ref 31), (0, .ref 0)] [.int (sp_seal (xs 1))] _ 143 360892 _
  refine x_aloadn (x := 125) rfl rfl ?_
  refine x_aloadn (x := 0) rfl rfl ?_
  refine x_iloadn (x := 0) rfl rfl ?_
  refine x_iconst (v := 1) rfl ki_1 ?_
  refine y_iadd (v := 1) rfl (by decide) ?_
  refine y_iald (v := xs 1) (N := 7) 1 rfl (O2 0 (by decide)).1 (jinb_of (by decide)) (by decide) ((O2 0 (by decide)).2 1) ?_
  refine x_inv (N := m_X12_seal) (As := [.int (xs 1)]) (b := 125) (st := [.int (sp_seal (xs 1))]) (d' := 100) (mc := 0) (ms := 0) (host := "") 12 rfl t_X12_seal ⟨Or.inl q_13_242, i_X12_seal.1, i_X12_seal.2⟩ ⟨by decide, rfl⟩ (congrArg Prod.fst (F2.1 125 (12, 92) rfl rfl)) rfl (by decide) rfl rfl ⟨by decide, by decide⟩ (pm_seal (xs 1) F2 O2 ?_)
  intro h3 O3
  show jX m_L_law 1300 600000 7302249 2711 [(3, .int 0), (2, .ref 125), (1, .ref 31), (0, .ref 0)] [.int (sp_seal (xs 1)), .int (sp_seal (xs 1))] _ 143 360892 _
  refine x_iceq (tgt := 2887) rfl rfl (br_t rfl ?_)
  refine x_iinc (x := 0) (v := 7) (ls' := [(3, .int 7), (2, .ref 125), (1, .ref 31), (0, .ref 0)]) rfl rfl (by decide) rfl rfl ?_
  refine x_goto (tgt := 18) rfl rfl ?_
  refine x_iloadn (x := 7) rfl rfl ?_
  refine x_aloadn (x := 0) rfl rfl ?_
  refine y_alen (N := 7) (v := 7) rfl (O3 0 (by decide)).1 (by decide) (by decide) ?_
  refine x_bipush (v := 7) rfl kb_7 ?_
  refine y_isub (v := 0) rfl (by decide) ?_
  refine x_icgt (tgt := 2893) rfl rfl (br_t (by decide) ?_)
  refine x_iconst (v := 1) rfl ki_1 ?_
  refine x_zret rfl rfl (by first | decide | exact jp_01 _) ?_
  exact hQ _
set_option maxRecDepth 100000 in
set_option maxHeartbeats 40000000 in
theorem cs_alter {xs : Nat → Int32} {h : jH} {Q : Option Value → jH → Prop} (F : jFb 31 h) (O : jOl 7 xs h) (hQ : ∀ h', Q (some (.int 1)) h') : jX m_L_law 1300 600000 7302249 2716 [(3, .int 0), (2, .ref 125), (1, .ref 31), (0, .ref 0)] [] h 143 360892 Q := by
  refine x_aloadn (x := 31) rfl rfl ?_
  refine x_aloadn (x := 0) rfl rfl ?_
  refine x_iloadn (x := 0) rfl rfl ?_
  refine x_iconst (v := 1) rfl ki_1 ?_
  refine y_iadd (v := 1) rfl (by decide) ?_
  refine y_iald (v := xs 1) (N := 7) 1 rfl (O 0 (by decide)).1 (jinb_of (by decide)) (by decide) ((O 0 (by decide)).2 1) ?_
  refine x_aloadn (x := 0) rfl rfl ?_
  refine x_iloadn (x := 0) rfl rfl ?_
  refine x_iconst (v := 2) rfl ki_2 ?_
  refine y_iadd (v := 2) rfl (by decide) ?_
  refine y_iald (v := xs 2) (N := 7) 2 rfl (O 0 (by decide)).1 (jinb_of (by decide)) (by decide) ((O 0 (by decide)).2 2) ?_
  refine x_inv (N := m_X11_alter) (As := [.int (xs 1), .int (xs 2)]) (b := 31) (st := []) (d' := 100) (mc := 0) (ms := 0) (host := "") 11 rfl t_X11_alter ⟨Or.inl q_13_243, i_X11_alter.1, i_X11_alter.2⟩ ⟨by decide, rfl⟩ (congrArg Prod.fst (F.1 31 (11, 13) rfl rfl)) rfl (by decide) rfl rfl ⟨by decide, by decide⟩ (px_alter (xs 1) (xs 2) F O ?_)
  intro h2 F2 O2
  show jX m_L_law 1300 600000 7302249 2730 [(3, .int 0), (2, .ref 125), (1, .ref 31), (0, .ref 0)] [.int (sp_alter (xs 1) (xs 2))] _ 143 360892 _
  refine x_aloadn (x := 125) rfl rfl ?_
  refine x_aloadn (x := 0) rfl rfl ?_
  refine x_iloadn (x := 0) rfl rfl ?_
  refine x_iconst (v := 1) rfl ki_1 ?_
  refine y_iadd (v := 1) rfl (by decide) ?_
  refine y_iald (v := xs 1) (N := 7) 1 rfl (O2 0 (by decide)).1 (jinb_of (by decide)) (by decide) ((O2 0 (by decide)).2 1) ?_
  refine x_aloadn (x := 0) rfl rfl ?_
  refine x_iloadn (x := 0) rfl rfl ?_
  refine x_iconst (v := 2) rfl ki_2 ?_
  refine y_iadd (v := 2) rfl (by decide) ?_
  refine y_iald (v := xs 2) (N := 7) 2 rfl (O2 0 (by decide)).1 (jinb_of (by decide)) (by decide) ((O2 0 (by decide)).2 2) ?_
  refine x_inv (N := m_X12_alter) (As := [.int (xs 1), .int (xs 2)]) (b := 125) (st := [.int (sp_alter (xs 1) (xs 2))]) (d' := 100) (mc := 0) (ms := 0) (host := "") 12 rfl t_X12_alter ⟨Or.inl q_13_246, i_X12_alter.1, i_X12_alter.2⟩ ⟨by decide, rfl⟩ (congrArg Prod.fst (F2.1 125 (12, 92) rfl rfl)) rfl (by decide) rfl rfl ⟨by decide, by decide⟩ (pm_alter (xs 1) (xs 2) F2 O2 ?_)
  intro h3 O3
  show jX m_L_law 1300 600000 7302249 2744 [(3, .int 0), (2, .ref 125), (1, .ref 31), (0, .ref 0)] [.int (sp_alter (xs 1) (xs 2)), .int (sp_alter (xs 1) (xs 2))] _ 143 360892 _
  refine x_iceq (tgt := 2887) rfl rfl (br_t rfl ?_)
  refine x_iinc (x := 0) (v := 7) (ls' := [(3, .int 7), (2, .ref 125), (1, .ref 31), (0, .ref 0)]) rfl rfl (by decide) rfl rfl ?_
  refine x_goto (tgt := 18) rfl rfl ?_
  refine x_iloadn (x := 7) rfl rfl ?_
  refine x_aloadn (x := 0) rfl rfl ?_
  refine y_alen (N := 7) (v := 7) rfl (O3 0 (by decide)).1 (by decide) (by decide) ?_
  refine x_bipush (v := 7) rfl kb_7 ?_
  refine y_isub (v := 0) rfl (by decide) ?_
  refine x_icgt (tgt := 2893) rfl rfl (br_t (by decide) ?_)
  refine x_iconst (v := 1) rfl ki_1 ?_
  refine x_zret rfl rfl (by first | decide | exact jp_01 _) ?_
  exact hQ _
set_option maxRecDepth 100000 in
set_option maxHeartbeats 40000000 in
theorem cs_found {xs : Nat → Int32} {h : jH} {Q : Option Value → jH → Prop} (F : jFb 31 h) (O : jOl 7 xs h) (hQ : ∀ h', Q (some (.int 1)) h') : jX m_L_law 1300 600000 7302249 2749 [(3, .int 0), (2, .ref 125), (1, .ref 31), (0, .ref 0)] [] h 143 360892 Q := by
  refine x_aloadn (x := 31) rfl rfl ?_
  refine x_aloadn (x := 0) rfl rfl ?_
  refine x_iloadn (x := 0) rfl rfl ?_
  refine x_iconst (v := 1) rfl ki_1 ?_
  refine y_iadd (v := 1) rfl (by decide) ?_
  refine y_iald (v := xs 1) (N := 7) 1 rfl (O 0 (by decide)).1 (jinb_of (by decide)) (by decide) ((O 0 (by decide)).2 1) ?_
  refine x_inv (N := m_X11_found) (As := [.int (xs 1)]) (b := 31) (st := []) (d' := 100) (mc := 0) (ms := 0) (host := "") 11 rfl t_X11_found ⟨Or.inl q_13_247, i_X11_found.1, i_X11_found.2⟩ ⟨by decide, rfl⟩ (congrArg Prod.fst (F.1 31 (11, 13) rfl rfl)) rfl (by decide) rfl rfl ⟨by decide, by decide⟩ (px_found (xs 1) F O ?_)
  intro h2 F2 O2
  show jX m_L_law 1300 600000 7302249 2758 [(3, .int 0), (2, .ref 125), (1, .ref 31), (0, .ref 0)] [.int (sp_found (xs 1))] _ 143 360892 _
  refine x_aloadn (x := 125) rfl rfl ?_
  refine x_aloadn (x := 0) rfl rfl ?_
  refine x_iloadn (x := 0) rfl rfl ?_
  refine x_iconst (v := 1) rfl ki_1 ?_
  refine y_iadd (v := 1) rfl (by decide) ?_
  refine y_iald (v := xs 1) (N := 7) 1 rfl (O2 0 (by decide)).1 (jinb_of (by decide)) (by decide) ((O2 0 (by decide)).2 1) ?_
  refine x_inv (N := m_X12_found) (As := [.int (xs 1)]) (b := 125) (st := [.int (sp_found (xs 1))]) (d' := 100) (mc := 0) (ms := 0) (host := "") 12 rfl t_X12_found ⟨Or.inl q_13_250, i_X12_found.1, i_X12_found.2⟩ ⟨by decide, rfl⟩ (congrArg Prod.fst (F2.1 125 (12, 92) rfl rfl)) rfl (by decide) rfl rfl ⟨by decide, by decide⟩ (pm_found (xs 1) F2 O2 ?_)
  intro h3 O3
  show jX m_L_law 1300 600000 7302249 2767 [(3, .int 0), (2, .ref 125), (1, .ref 31), (0, .ref 0)] [.int (sp_found (xs 1)), .int (sp_found (xs 1))] _ 143 360892 _
  refine x_iceq (tgt := 2887) rfl rfl (br_t rfl ?_)
  refine x_iinc (x := 0) (v := 7) (ls' := [(3, .int 7), (2, .ref 125), (1, .ref 31), (0, .ref 0)]) rfl rfl (by decide) rfl rfl ?_
  refine x_goto (tgt := 18) rfl rfl ?_
  refine x_iloadn (x := 7) rfl rfl ?_
  refine x_aloadn (x := 0) rfl rfl ?_
  refine y_alen (N := 7) (v := 7) rfl (O3 0 (by decide)).1 (by decide) (by decide) ?_
  refine x_bipush (v := 7) rfl kb_7 ?_
  refine y_isub (v := 0) rfl (by decide) ?_
  refine x_icgt (tgt := 2893) rfl rfl (br_t (by decide) ?_)
  refine x_iconst (v := 1) rfl ki_1 ?_
  refine x_zret rfl rfl (by first | decide | exact jp_01 _) ?_
  exact hQ _
set_option maxRecDepth 100000 in
set_option maxHeartbeats 40000000 in
theorem cs_image {xs : Nat → Int32} {h : jH} {Q : Option Value → jH → Prop} (F : jFb 31 h) (O : jOl 7 xs h) (hn : jnx h = 174) (hQ : ∀ h', Q (some (.int 1)) h') : jX m_L_law 1300 600000 7302249 2772 [(3, .int 0), (2, .ref 125), (1, .ref 31), (0, .ref 0)] [] h 143 360892 Q := by
  refine x_aloadn (x := 31) rfl rfl ?_
  refine x_aloadn (x := 0) rfl rfl ?_
  refine x_iloadn (x := 0) rfl rfl ?_
  refine x_iconst (v := 1) rfl ki_1 ?_
  refine y_iadd (v := 1) rfl (by decide) ?_
  refine y_iald (v := xs 1) (N := 7) 1 rfl (O 0 (by decide)).1 (jinb_of (by decide)) (by decide) ((O 0 (by decide)).2 1) ?_
  refine x_inv (N := m_X11_image) (As := [.int (xs 1)]) (b := 31) (st := []) (d' := 100) (mc := 35) (ms := 24594) (host := "") 11 rfl t_X11_image ⟨Or.inl q_13_251, i_X11_image.1, i_X11_image.2⟩ ⟨by decide, rfl⟩ (congrArg Prod.fst (F.1 31 (11, 13) rfl rfl)) rfl (by decide) rfl rfl ⟨by decide, by decide⟩ (px_image (xs 1) F O hn ?_)
  intro h2 F2 O2
  show jX m_L_law 1300 600000 7302249 2781 [(3, .int 0), (2, .ref 125), (1, .ref 31), (0, .ref 0)] [.int (sp_image (xs 1))] _ 178 385486 _
  refine x_aloadn (x := 125) rfl rfl ?_
  refine x_aloadn (x := 0) rfl rfl ?_
  refine x_iloadn (x := 0) rfl rfl ?_
  refine x_iconst (v := 1) rfl ki_1 ?_
  refine y_iadd (v := 1) rfl (by decide) ?_
  refine y_iald (v := xs 1) (N := 7) 1 rfl (O2 0 (by decide)).1 (jinb_of (by decide)) (by decide) ((O2 0 (by decide)).2 1) ?_
  refine x_inv (N := m_X12_image) (As := [.int (xs 1)]) (b := 125) (st := [.int (sp_image (xs 1))]) (d' := 100) (mc := 0) (ms := 0) (host := "") 12 rfl t_X12_image ⟨Or.inl q_13_254, i_X12_image.1, i_X12_image.2⟩ ⟨by decide, rfl⟩ (congrArg Prod.fst (F2.1 125 (12, 92) rfl rfl)) rfl (by decide) rfl rfl ⟨by decide, by decide⟩ (pm_image (xs 1) F2 O2 ?_)
  intro h3 O3
  show jX m_L_law 1300 600000 7302249 2790 [(3, .int 0), (2, .ref 125), (1, .ref 31), (0, .ref 0)] [.int (sp_image (xs 1)), .int (sp_image (xs 1))] _ 178 385486 _
  refine x_iceq (tgt := 2887) rfl rfl (br_t rfl ?_)
  refine x_iinc (x := 0) (v := 7) (ls' := [(3, .int 7), (2, .ref 125), (1, .ref 31), (0, .ref 0)]) rfl rfl (by decide) rfl rfl ?_
  refine x_goto (tgt := 18) rfl rfl ?_
  refine x_iloadn (x := 7) rfl rfl ?_
  refine x_aloadn (x := 0) rfl rfl ?_
  refine y_alen (N := 7) (v := 7) rfl (O3 0 (by decide)).1 (by decide) (by decide) ?_
  refine x_bipush (v := 7) rfl kb_7 ?_
  refine y_isub (v := 0) rfl (by decide) ?_
  refine x_icgt (tgt := 2893) rfl rfl (br_t (by decide) ?_)
  refine x_iconst (v := 1) rfl ki_1 ?_
  refine x_zret rfl rfl (by first | decide | exact jp_01 _) ?_
  exact hQ _
set_option maxRecDepth 100000 in
set_option maxHeartbeats 40000000 in
theorem cs_back {xs : Nat → Int32} {h : jH} {Q : Option Value → jH → Prop} (F : jFb 31 h) (O : jOl 7 xs h) (hQ : ∀ h', Q (some (.int 1)) h') : jX m_L_law 1300 600000 7302249 2795 [(3, .int 0), (2, .ref 125), (1, .ref 31), (0, .ref 0)] [] h 143 360892 Q := by
  refine x_aloadn (x := 31) rfl rfl ?_
  refine x_aloadn (x := 0) rfl rfl ?_
  refine x_iloadn (x := 0) rfl rfl ?_
  refine x_iconst (v := 1) rfl ki_1 ?_
  refine y_iadd (v := 1) rfl (by decide) ?_
  refine y_iald (v := xs 1) (N := 7) 1 rfl (O 0 (by decide)).1 (jinb_of (by decide)) (by decide) ((O 0 (by decide)).2 1) ?_
  refine x_inv (N := m_X11_back) (As := [.int (xs 1)]) (b := 31) (st := []) (d' := 100) (mc := 0) (ms := 0) (host := "") 11 rfl t_X11_back ⟨Or.inl q_13_255, i_X11_back.1, i_X11_back.2⟩ ⟨by decide, rfl⟩ (congrArg Prod.fst (F.1 31 (11, 13) rfl rfl)) rfl (by decide) rfl rfl ⟨by decide, by decide⟩ (px_back (xs 1) F O ?_)
  intro h2 F2 O2
  show jX m_L_law 1300 600000 7302249 2804 [(3, .int 0), (2, .ref 125), (1, .ref 31), (0, .ref 0)] [.int (sp_back (xs 1))] _ 143 360892 _
  refine x_aloadn (x := 125) rfl rfl ?_
  refine x_aloadn (x := 0) rfl rfl ?_
  refine x_iloadn (x := 0) rfl rfl ?_
  refine x_iconst (v := 1) rfl ki_1 ?_
  refine y_iadd (v := 1) rfl (by decide) ?_
  refine y_iald (v := xs 1) (N := 7) 1 rfl (O2 0 (by decide)).1 (jinb_of (by decide)) (by decide) ((O2 0 (by decide)).2 1) ?_
  refine x_inv (N := m_X12_back) (As := [.int (xs 1)]) (b := 125) (st := [.int (sp_back (xs 1))]) (d' := 100) (mc := 0) (ms := 0) (host := "") 12 rfl t_X12_back ⟨Or.inl q_13_258, i_X12_back.1, i_X12_back.2⟩ ⟨by decide, rfl⟩ (congrArg Prod.fst (F2.1 125 (12, 92) rfl rfl)) rfl (by decide) rfl rfl ⟨by decide, by decide⟩ (pm_back (xs 1) F2 O2 ?_)
  intro h3 O3
  show jX m_L_law 1300 600000 7302249 2813 [(3, .int 0), (2, .ref 125), (1, .ref 31), (0, .ref 0)] [.int (sp_back (xs 1)), .int (sp_back (xs 1))] _ 143 360892 _
  refine x_iceq (tgt := 2887) rfl rfl (br_t rfl ?_)
  refine x_iinc (x := 0) (v := 7) (ls' := [(3, .int 7), (2, .ref 125), (1, .ref 31), (0, .ref 0)]) rfl rfl (by decide) rfl rfl ?_
  refine x_goto (tgt := 18) rfl rfl ?_
  refine x_iloadn (x := 7) rfl rfl ?_
  refine x_aloadn (x := 0) rfl rfl ?_
  refine y_alen (N := 7) (v := 7) rfl (O3 0 (by decide)).1 (by decide) (by decide) ?_
  refine x_bipush (v := 7) rfl kb_7 ?_
  refine y_isub (v := 0) rfl (by decide) ?_
  refine x_icgt (tgt := 2893) rfl rfl (br_t (by decide) ?_)
  refine x_iconst (v := 1) rfl ki_1 ?_
  refine x_zret rfl rfl (by first | decide | exact jp_01 _) ?_
  exact hQ _
set_option maxRecDepth 100000 in
set_option maxHeartbeats 40000000 in
theorem cs_as {xs : Nat → Int32} {h : jH} {Q : Option Value → jH → Prop} (F : jFb 31 h) (O : jOl 7 xs h) (hQ : ∀ h', Q (some (.int 1)) h') : jX m_L_law 1300 600000 7302249 2818 [(3, .int 0), (2, .ref 125), (1, .ref 31), (0, .ref 0)] [] h 143 360892 Q := by
  refine x_aloadn (x := 31) rfl rfl ?_
  refine x_aloadn (x := 0) rfl rfl ?_
  refine x_iloadn (x := 0) rfl rfl ?_
  refine x_iconst (v := 1) rfl ki_1 ?_
  refine y_iadd (v := 1) rfl (by decide) ?_
  refine y_iald (v := xs 1) (N := 7) 1 rfl (O 0 (by decide)).1 (jinb_of (by decide)) (by decide) ((O 0 (by decide)).2 1) ?_
  refine x_aloadn (x := 0) rfl rfl ?_
  refine x_iloadn (x := 0) rfl rfl ?_
  refine x_iconst (v := 2) rfl ki_2 ?_
  refine y_iadd (v := 2) rfl (by decide) ?_
  refine y_iald (v := xs 2) (N := 7) 2 rfl (O 0 (by decide)).1 (jinb_of (by decide)) (by decide) ((O 0 (by decide)).2 2) ?_
  refine x_inv (N := m_X11_as) (As := [.int (xs 1), .int (xs 2)]) (b := 31) (st := []) (d' := 100) (mc := 0) (ms := 0) (host := "") 11 rfl t_X11_as ⟨Or.inl q_13_259, i_X11_as.1, i_X11_as.2⟩ ⟨by decide, rfl⟩ (congrArg Prod.fst (F.1 31 (11, 13) rfl rfl)) rfl (by decide) rfl rfl ⟨by decide, by decide⟩ (px_as (xs 1) (xs 2) F O ?_)
  intro h2 F2 O2
  show jX m_L_law 1300 600000 7302249 2832 [(3, .int 0), (2, .ref 125), (1, .ref 31), (0, .ref 0)] [.int (sp_as (xs 1) (xs 2))] _ 143 360892 _
  refine x_aloadn (x := 125) rfl rfl ?_
  refine x_aloadn (x := 0) rfl rfl ?_
  refine x_iloadn (x := 0) rfl rfl ?_
  refine x_iconst (v := 1) rfl ki_1 ?_
  refine y_iadd (v := 1) rfl (by decide) ?_
  refine y_iald (v := xs 1) (N := 7) 1 rfl (O2 0 (by decide)).1 (jinb_of (by decide)) (by decide) ((O2 0 (by decide)).2 1) ?_
  refine x_aloadn (x := 0) rfl rfl ?_
  refine x_iloadn (x := 0) rfl rfl ?_
  refine x_iconst (v := 2) rfl ki_2 ?_
  refine y_iadd (v := 2) rfl (by decide) ?_
  refine y_iald (v := xs 2) (N := 7) 2 rfl (O2 0 (by decide)).1 (jinb_of (by decide)) (by decide) ((O2 0 (by decide)).2 2) ?_
  refine x_inv (N := m_X12_as) (As := [.int (xs 1), .int (xs 2)]) (b := 125) (st := [.int (sp_as (xs 1) (xs 2))]) (d' := 100) (mc := 0) (ms := 0) (host := "") 12 rfl t_X12_as ⟨Or.inl q_13_262, i_X12_as.1, i_X12_as.2⟩ ⟨by decide, rfl⟩ (congrArg Prod.fst (F2.1 125 (12, 92) rfl rfl)) rfl (by decide) rfl rfl ⟨by decide, by decide⟩ (pm_as (xs 1) (xs 2) F2 O2 ?_)
  intro h3 O3
  show jX m_L_law 1300 600000 7302249 2846 [(3, .int 0), (2, .ref 125), (1, .ref 31), (0, .ref 0)] [.int (sp_as (xs 1) (xs 2)), .int (sp_as (xs 1) (xs 2))] _ 143 360892 _
  refine x_iceq (tgt := 2887) rfl rfl (br_t rfl ?_)
  refine x_iinc (x := 0) (v := 7) (ls' := [(3, .int 7), (2, .ref 125), (1, .ref 31), (0, .ref 0)]) rfl rfl (by decide) rfl rfl ?_
  refine x_goto (tgt := 18) rfl rfl ?_
  refine x_iloadn (x := 7) rfl rfl ?_
  refine x_aloadn (x := 0) rfl rfl ?_
  refine y_alen (N := 7) (v := 7) rfl (O3 0 (by decide)).1 (by decide) (by decide) ?_
  refine x_bipush (v := 7) rfl kb_7 ?_
  refine y_isub (v := 0) rfl (by decide) ?_
  refine x_icgt (tgt := 2893) rfl rfl (br_t (by decide) ?_)
  refine x_iconst (v := 1) rfl ki_1 ?_
  refine x_zret rfl rfl (by first | decide | exact jp_01 _) ?_
  exact hQ _
set_option maxRecDepth 100000 in
set_option maxHeartbeats 40000000 in
theorem cs_count {xs : Nat → Int32} {h : jH} {Q : Option Value → jH → Prop} (F : jFb 31 h) (O : jOl 7 xs h) (hQ : ∀ h', Q (some (.int 1)) h') : jX m_L_law 1300 600000 7302249 2851 [(3, .int 0), (2, .ref 125), (1, .ref 31), (0, .ref 0)] [] h 143 360892 Q := by
  refine x_aloadn (x := 31) rfl rfl ?_
  refine x_aloadn (x := 0) rfl rfl ?_
  refine x_iloadn (x := 0) rfl rfl ?_
  refine x_iconst (v := 1) rfl ki_1 ?_
  refine y_iadd (v := 1) rfl (by decide) ?_
  refine y_iald (v := xs 1) (N := 7) 1 rfl (O 0 (by decide)).1 (jinb_of (by decide)) (by decide) ((O 0 (by decide)).2 1) ?_
  refine x_inv (N := m_X11_count) (As := [.int (xs 1)]) (b := 31) (st := []) (d' := 100) (mc := 0) (ms := 0) (host := "") 11 rfl t_X11_count ⟨Or.inl q_13_263, i_X11_count.1, i_X11_count.2⟩ ⟨by decide, rfl⟩ (congrArg Prod.fst (F.1 31 (11, 13) rfl rfl)) rfl (by decide) rfl rfl ⟨by decide, by decide⟩ (px_count (xs 1) F O ?_)
  intro h2 F2 O2
  show jX m_L_law 1300 600000 7302249 2860 [(3, .int 0), (2, .ref 125), (1, .ref 31), (0, .ref 0)] [.int (sp_count (xs 1))] _ 143 360892 _
  refine x_aloadn (x := 125) rfl rfl ?_
  refine x_aloadn (x := 0) rfl rfl ?_
  refine x_iloadn (x := 0) rfl rfl ?_
  refine x_iconst (v := 1) rfl ki_1 ?_
  refine y_iadd (v := 1) rfl (by decide) ?_
  refine y_iald (v := xs 1) (N := 7) 1 rfl (O2 0 (by decide)).1 (jinb_of (by decide)) (by decide) ((O2 0 (by decide)).2 1) ?_
  refine x_inv (N := m_X12_count) (As := [.int (xs 1)]) (b := 125) (st := [.int (sp_count (xs 1))]) (d' := 100) (mc := 0) (ms := 0) (host := "") 12 rfl t_X12_count ⟨Or.inl q_13_266, i_X12_count.1, i_X12_count.2⟩ ⟨by decide, rfl⟩ (congrArg Prod.fst (F2.1 125 (12, 92) rfl rfl)) rfl (by decide) rfl rfl ⟨by decide, by decide⟩ (pm_count (xs 1) F2 O2 ?_)
  intro h3 O3
  show jX m_L_law 1300 600000 7302249 2869 [(3, .int 0), (2, .ref 125), (1, .ref 31), (0, .ref 0)] [.int (sp_count (xs 1)), .int (sp_count (xs 1))] _ 143 360892 _
  refine x_iceq (tgt := 2887) rfl rfl (br_t rfl ?_)
  refine x_iinc (x := 0) (v := 7) (ls' := [(3, .int 7), (2, .ref 125), (1, .ref 31), (0, .ref 0)]) rfl rfl (by decide) rfl rfl ?_
  refine x_goto (tgt := 18) rfl rfl ?_
  refine x_iloadn (x := 7) rfl rfl ?_
  refine x_aloadn (x := 0) rfl rfl ?_
  refine y_alen (N := 7) (v := 7) rfl (O3 0 (by decide)).1 (by decide) (by decide) ?_
  refine x_bipush (v := 7) rfl kb_7 ?_
  refine y_isub (v := 0) rfl (by decide) ?_
  refine x_icgt (tgt := 2893) rfl rfl (br_t (by decide) ?_)
  refine x_iconst (v := 1) rfl ki_1 ?_
  refine x_zret rfl rfl (by first | decide | exact jp_01 _) ?_
  exact hQ _
set_option maxRecDepth 100000 in
set_option maxHeartbeats 40000000 in
theorem cs_status {xs : Nat → Int32} {h : jH} {Q : Option Value → jH → Prop} (F : jFb 31 h) (O : jOl 7 xs h) (hQ : ∀ h', Q (some (.int 1)) h') : jX m_L_law 1300 600000 7302249 2874 [(3, .int 0), (2, .ref 125), (1, .ref 31), (0, .ref 0)] [] h 143 360892 Q := by
  refine x_aloadn (x := 31) rfl rfl ?_
  refine x_inv (N := m_X11_status) (As := []) (b := 31) (st := []) (d' := 100) (mc := 0) (ms := 0) (host := "") 11 rfl t_X11_status ⟨Or.inl q_13_267, i_X11_status.1, i_X11_status.2⟩ ⟨by decide, rfl⟩ (congrArg Prod.fst (F.1 31 (11, 13) rfl rfl)) rfl (by decide) rfl rfl ⟨by decide, by decide⟩ (px_status  F O ?_)
  intro h2 F2 O2
  show jX m_L_law 1300 600000 7302249 2878 [(3, .int 0), (2, .ref 125), (1, .ref 31), (0, .ref 0)] [.int sp_status] _ 143 360892 _
  refine x_aloadn (x := 125) rfl rfl ?_
  refine x_inv (N := m_X12_status) (As := []) (b := 125) (st := [.int sp_status]) (d' := 100) (mc := 0) (ms := 0) (host := "") 12 rfl t_X12_status ⟨Or.inl q_13_270, i_X12_status.1, i_X12_status.2⟩ ⟨by decide, rfl⟩ (congrArg Prod.fst (F2.1 125 (12, 92) rfl rfl)) rfl (by decide) rfl rfl ⟨by decide, by decide⟩ (pm_status  F2 O2 ?_)
  intro h3 O3
  show jX m_L_law 1300 600000 7302249 2882 [(3, .int 0), (2, .ref 125), (1, .ref 31), (0, .ref 0)] [.int sp_status, .int sp_status] _ 143 360892 _
  refine x_iceq (tgt := 2887) rfl rfl (br_t rfl ?_)
  refine x_iinc (x := 0) (v := 7) (ls' := [(3, .int 7), (2, .ref 125), (1, .ref 31), (0, .ref 0)]) rfl rfl (by decide) rfl rfl ?_
  refine x_goto (tgt := 18) rfl rfl ?_
  refine x_iloadn (x := 7) rfl rfl ?_
  refine x_aloadn (x := 0) rfl rfl ?_
  refine y_alen (N := 7) (v := 7) rfl (O3 0 (by decide)).1 (by decide) (by decide) ?_
  refine x_bipush (v := 7) rfl kb_7 ?_
  refine y_isub (v := 0) rfl (by decide) ?_
  refine x_icgt (tgt := 2893) rfl rfl (br_t (by decide) ?_)
  refine x_iconst (v := 1) rfl ki_1 ?_
  refine x_zret rfl rfl (by first | decide | exact jp_01 _) ?_
  exact hQ _
set_option maxRecDepth 100000 in
set_option maxHeartbeats 40000000 in
theorem law_run {xs : Nat → Int32} {h : jH} {Q : Option Value → jH → Prop} (F : jFb 31 h) (O : jOl 7 xs h) (hn : jnx h = 174) (hQ : ∀ h', Q (some (.int 1)) h') : jX m_L_law 1300 600000 7302249 18 [(3, .int 0), (2, .ref 125), (1, .ref 31), (0, .ref 0)] [] h 143 360892 Q := by
  refine x_iloadn (x := 0) rfl rfl ?_
  refine x_aloadn (x := 0) rfl rfl ?_
  refine y_alen (N := 7) (v := 7) rfl (O 0 (by decide)).1 (by decide) (by decide) ?_
  refine x_bipush (v := 7) rfl kb_7 ?_
  refine y_isub (v := 0) rfl (by decide) ?_
  refine x_icgt (tgt := 2893) rfl rfl (br_f (by decide) ?_)
  refine x_aloadn (x := 0) rfl rfl ?_
  refine x_iloadn (x := 0) rfl rfl ?_
  refine y_iald (v := xs 0) (N := 7) 0 rfl (O 0 (by decide)).1 (jinb_of (by decide)) (by decide) ((O 0 (by decide)).2 0) ?_
  refine x_bipush (v := 63) rfl kb_63 ?_
  refine x_iand rfl ?_
  by_cases c1 : ((xs 0) &&& 63).toInt = 0
  ·
    refine x_tableIn (tgt := 296) 0 rfl c1 (by decide) (by decide) rfl rfl ?_
    exact cs_feed F O hQ
  by_cases c2 : ((xs 0) &&& 63).toInt = 1
  ·
    refine x_tableIn (tgt := 359) 1 rfl c2 (by decide) (by decide) rfl rfl ?_
    exact cs_end F O hQ
  by_cases c3 : ((xs 0) &&& 63).toInt = 2
  ·
    refine x_tableIn (tgt := 382) 2 rfl c3 (by decide) (by decide) rfl rfl ?_
    exact cs_fault F O hQ
  by_cases c4 : ((xs 0) &&& 63).toInt = 3
  ·
    refine x_tableIn (tgt := 395) 3 rfl c4 (by decide) (by decide) rfl rfl ?_
    exact cs_line F O hQ
  by_cases c5 : ((xs 0) &&& 63).toInt = 4
  ·
    refine x_tableIn (tgt := 458) 4 rfl c5 (by decide) (by decide) rfl rfl ?_
    exact cs_of F O hQ
  by_cases c6 : ((xs 0) &&& 63).toInt = 5
  ·
    refine x_tableIn (tgt := 491) 5 rfl c6 (by decide) (by decide) rfl rfl ?_
    exact cs_spell F O hQ
  by_cases c7 : ((xs 0) &&& 63).toInt = 6
  ·
    refine x_tableIn (tgt := 514) 6 rfl c7 (by decide) (by decide) rfl rfl ?_
    exact cs_name F O hQ
  by_cases c8 : ((xs 0) &&& 63).toInt = 7
  ·
    refine x_tableIn (tgt := 557) 7 rfl c8 (by decide) (by decide) rfl rfl ?_
    exact cs_piece F O hQ
  by_cases c9 : ((xs 0) &&& 63).toInt = 8
  ·
    refine x_tableIn (tgt := 610) 8 rfl c9 (by decide) (by decide) rfl rfl ?_
    exact cs_terms F O hQ
  by_cases c10 : ((xs 0) &&& 63).toInt = 9
  ·
    refine x_tableIn (tgt := 673) 9 rfl c10 (by decide) (by decide) rfl rfl ?_
    exact cs_reason F O hQ
  by_cases c11 : ((xs 0) &&& 63).toInt = 10
  ·
    refine x_tableIn (tgt := 706) 10 rfl c11 (by decide) (by decide) rfl rfl ?_
    exact cs_worth F O hQ
  by_cases c12 : ((xs 0) &&& 63).toInt = 11
  ·
    refine x_tableIn (tgt := 739) 11 rfl c12 (by decide) (by decide) rfl rfl ?_
    exact cs_apart F O hQ
  by_cases c13 : ((xs 0) &&& 63).toInt = 12
  ·
    refine x_tableIn (tgt := 772) 12 rfl c13 (by decide) (by decide) rfl rfl ?_
    exact cs_together F O hQ
  by_cases c14 : ((xs 0) &&& 63).toInt = 13
  ·
    refine x_tableIn (tgt := 815) 13 rfl c14 (by decide) (by decide) rfl rfl ?_
    exact cs_waits F O hQ
  by_cases c15 : ((xs 0) &&& 63).toInt = 14
  ·
    refine x_tableIn (tgt := 848) 14 rfl c15 (by decide) (by decide) rfl rfl ?_
    exact cs_soul F O hQ
  by_cases c16 : ((xs 0) &&& 63).toInt = 15
  ·
    refine x_tableIn (tgt := 881) 15 rfl c16 (by decide) (by decide) rfl rfl ?_
    exact cs_mentions F O hQ
  by_cases c17 : ((xs 0) &&& 63).toInt = 16
  ·
    refine x_tableIn (tgt := 934) 16 rfl c17 (by decide) (by decide) rfl rfl ?_
    exact cs_kin F O hQ
  by_cases c18 : ((xs 0) &&& 63).toInt = 17
  ·
    refine x_tableIn (tgt := 987) 17 rfl c18 (by decide) (by decide) rfl rfl ?_
    exact cs_span F O hQ
  by_cases c19 : ((xs 0) &&& 63).toInt = 18
  ·
    refine x_tableIn (tgt := 1030) 18 rfl c19 (by decide) (by decide) rfl rfl ?_
    exact cs_wish F O hQ
  by_cases c20 : ((xs 0) &&& 63).toInt = 19
  ·
    refine x_tableIn (tgt := 1053) 19 rfl c20 (by decide) (by decide) rfl rfl ?_
    exact cs_clear F O hQ
  by_cases c21 : ((xs 0) &&& 63).toInt = 20
  ·
    refine x_tableIn (tgt := 1066) 20 rfl c21 (by decide) (by decide) rfl rfl ?_
    exact cs_best F O hQ
  by_cases c22 : ((xs 0) &&& 63).toInt = 21
  ·
    refine x_tableIn (tgt := 1099) 21 rfl c22 (by decide) (by decide) rfl rfl ?_
    exact cs_group F O hQ
  by_cases c23 : ((xs 0) &&& 63).toInt = 22
  ·
    refine x_tableIn (tgt := 1122) 22 rfl c23 (by decide) (by decide) rfl rfl ?_
    exact cs_join F O hQ
  by_cases c24 : ((xs 0) &&& 63).toInt = 23
  ·
    refine x_tableIn (tgt := 1145) 23 rfl c24 (by decide) (by decide) rfl rfl ?_
    exact cs_torn F O hQ
  by_cases c25 : ((xs 0) &&& 63).toInt = 24
  ·
    refine x_tableIn (tgt := 1198) 24 rfl c25 (by decide) (by decide) rfl rfl ?_
    exact cs_fill F O hQ
  by_cases c26 : ((xs 0) &&& 63).toInt = 25
  ·
    refine x_tableIn (tgt := 1261) 25 rfl c26 (by decide) (by decide) rfl rfl ?_
    exact cs_text F O hQ
  by_cases c27 : ((xs 0) &&& 63).toInt = 26
  ·
    refine x_tableIn (tgt := 1304) 26 rfl c27 (by decide) (by decide) rfl rfl ?_
    exact cs_force F O hQ
  by_cases c28 : ((xs 0) &&& 63).toInt = 27
  ·
    refine x_tableIn (tgt := 1357) 27 rfl c28 (by decide) (by decide) rfl rfl ?_
    exact cs_holds F O hQ
  by_cases c29 : ((xs 0) &&& 63).toInt = 28
  ·
    refine x_tableIn (tgt := 1420) 28 rfl c29 (by decide) (by decide) rfl rfl ?_
    exact cs_counts F O hQ
  by_cases c30 : ((xs 0) &&& 63).toInt = 29
  ·
    refine x_tableIn (tgt := 1484) 29 rfl c30 (by decide) (by decide) rfl rfl ?_
    exact cs_about F O hQ
  by_cases c31 : ((xs 0) &&& 63).toInt = 30
  ·
    refine x_tableIn (tgt := 1538) 30 rfl c31 (by decide) (by decide) rfl rfl ?_
    exact cs_fact F O hQ
  by_cases c32 : ((xs 0) &&& 63).toInt = 31
  ·
    refine x_tableIn (tgt := 1613) 31 rfl c32 (by decide) (by decide) rfl rfl ?_
    exact cs_belong F O hQ
  by_cases c33 : ((xs 0) &&& 63).toInt = 32
  ·
    refine x_tableIn (tgt := 1666) 32 rfl c33 (by decide) (by decide) rfl rfl ?_
    exact cs_order F O hQ
  by_cases c34 : ((xs 0) &&& 63).toInt = 33
  ·
    refine x_tableIn (tgt := 1709) 33 rfl c34 (by decide) (by decide) rfl rfl ?_
    exact cs_appeal F O hQ
  by_cases c35 : ((xs 0) &&& 63).toInt = 34
  ·
    refine x_tableIn (tgt := 1752) 34 rfl c35 (by decide) (by decide) rfl rfl ?_
    exact cs_holding F O hQ
  by_cases c36 : ((xs 0) &&& 63).toInt = 35
  ·
    refine x_tableIn (tgt := 1765) 35 rfl c36 (by decide) (by decide) rfl rfl ?_
    exact cs_value F O hQ
  by_cases c37 : ((xs 0) &&& 63).toInt = 36
  ·
    refine x_tableIn (tgt := 1818) 36 rfl c37 (by decide) (by decide) rfl rfl ?_
    exact cs_split F O hQ
  by_cases c38 : ((xs 0) &&& 63).toInt = 37
  ·
    refine x_tableIn (tgt := 1881) 37 rfl c38 (by decide) (by decide) rfl rfl ?_
    exact cs_hold F O hQ
  by_cases c39 : ((xs 0) &&& 63).toInt = 38
  ·
    refine x_tableIn (tgt := 1934) 38 rfl c39 (by decide) (by decide) rfl rfl ?_
    exact cs_house F O hQ
  by_cases c40 : ((xs 0) &&& 63).toInt = 39
  ·
    refine x_tableIn (tgt := 1987) 39 rfl c40 (by decide) (by decide) rfl rfl ?_
    exact cs_levy F O hQ
  by_cases c41 : ((xs 0) &&& 63).toInt = 40
  ·
    refine x_tableIn (tgt := 2040) 40 rfl c41 (by decide) (by decide) rfl rfl ?_
    exact cs_owe F O hQ
  by_cases c42 : ((xs 0) &&& 63).toInt = 41
  ·
    refine x_tableIn (tgt := 2083) 41 rfl c42 (by decide) (by decide) rfl rfl ?_
    exact cs_pay F O hQ
  by_cases c43 : ((xs 0) &&& 63).toInt = 42
  ·
    refine x_tableIn (tgt := 2146) 42 rfl c43 (by decide) (by decide) rfl rfl ?_
    exact cs_arrear F O hQ
  by_cases c44 : ((xs 0) &&& 63).toInt = 43
  ·
    refine x_tableIn (tgt := 2199) 43 rfl c44 (by decide) (by decide) rfl rfl ?_
    exact cs_turn F O hQ
  by_cases c45 : ((xs 0) &&& 63).toInt = 44
  ·
    refine x_tableIn (tgt := 2252) 44 rfl c45 (by decide) (by decide) rfl rfl ?_
    exact cs_entry F O hQ
  by_cases c46 : ((xs 0) &&& 63).toInt = 45
  ·
    refine x_tableIn (tgt := 2305) 45 rfl c46 (by decide) (by decide) rfl rfl ?_
    exact cs_close F O hQ
  by_cases c47 : ((xs 0) &&& 63).toInt = 46
  ·
    refine x_tableIn (tgt := 2358) 46 rfl c47 (by decide) (by decide) rfl rfl ?_
    exact cs_balance F O hQ
  by_cases c48 : ((xs 0) &&& 63).toInt = 47
  ·
    refine x_tableIn (tgt := 2401) 47 rfl c48 (by decide) (by decide) rfl rfl ?_
    exact cs_beyond F O hQ
  by_cases c49 : ((xs 0) &&& 63).toInt = 48
  ·
    refine x_tableIn (tgt := 2434) 48 rfl c49 (by decide) (by decide) rfl rfl ?_
    exact cs_badge F O hQ
  by_cases c50 : ((xs 0) &&& 63).toInt = 49
  ·
    refine x_tableIn (tgt := 2477) 49 rfl c50 (by decide) (by decide) rfl rfl ?_
    exact cs_seat F O hQ
  by_cases c51 : ((xs 0) &&& 63).toInt = 50
  ·
    refine x_tableIn (tgt := 2520) 50 rfl c51 (by decide) (by decide) rfl rfl ?_
    exact cs_fee F O hQ
  by_cases c52 : ((xs 0) &&& 63).toInt = 51
  ·
    refine x_tableIn (tgt := 2554) 51 rfl c52 (by decide) (by decide) rfl rfl ?_
    exact cs_acres F O hQ
  by_cases c53 : ((xs 0) &&& 63).toInt = 52
  ·
    refine x_tableIn (tgt := 2597) 52 rfl c53 (by decide) (by decide) rfl rfl ?_
    exact cs_price F O hQ
  by_cases c54 : ((xs 0) &&& 63).toInt = 53
  ·
    refine x_tableIn (tgt := 2650) 53 rfl c54 (by decide) (by decide) rfl rfl ?_
    exact cs_coin F O hQ
  by_cases c55 : ((xs 0) &&& 63).toInt = 54
  ·
    refine x_tableIn (tgt := 2693) 54 rfl c55 (by decide) (by decide) rfl rfl ?_
    exact cs_seal F O hQ
  by_cases c56 : ((xs 0) &&& 63).toInt = 55
  ·
    refine x_tableIn (tgt := 2716) 55 rfl c56 (by decide) (by decide) rfl rfl ?_
    exact cs_alter F O hQ
  by_cases c57 : ((xs 0) &&& 63).toInt = 56
  ·
    refine x_tableIn (tgt := 2749) 56 rfl c57 (by decide) (by decide) rfl rfl ?_
    exact cs_found F O hQ
  by_cases c58 : ((xs 0) &&& 63).toInt = 57
  ·
    refine x_tableIn (tgt := 2772) 57 rfl c58 (by decide) (by decide) rfl rfl ?_
    exact cs_image F O hn hQ
  by_cases c59 : ((xs 0) &&& 63).toInt = 58
  ·
    refine x_tableIn (tgt := 2795) 58 rfl c59 (by decide) (by decide) rfl rfl ?_
    exact cs_back F O hQ
  by_cases c60 : ((xs 0) &&& 63).toInt = 59
  ·
    refine x_tableIn (tgt := 2818) 59 rfl c60 (by decide) (by decide) rfl rfl ?_
    exact cs_as F O hQ
  by_cases c61 : ((xs 0) &&& 63).toInt = 60
  ·
    refine x_tableIn (tgt := 2851) 60 rfl c61 (by decide) (by decide) rfl rfl ?_
    exact cs_count F O hQ
  by_cases c62 : ((xs 0) &&& 63).toInt = 61
  ·
    refine x_tableIn (tgt := 2874) 61 rfl c62 (by decide) (by decide) rfl rfl ?_
    exact cs_status F O hQ
  refine x_tableOut (tgt := 2887) rfl (by omega) rfl ?_
  refine x_iinc (x := 0) (v := 7) (ls' := [(3, .int 7), (2, .ref 125), (1, .ref 31), (0, .ref 0)]) rfl rfl (by decide) rfl rfl ?_
  refine x_goto (tgt := 18) rfl rfl ?_
  refine x_iloadn (x := 7) rfl rfl ?_
  refine x_aloadn (x := 0) rfl rfl ?_
  refine y_alen (N := 7) (v := 7) rfl (O 0 (by decide)).1 (by decide) (by decide) ?_
  refine x_bipush (v := 7) rfl kb_7 ?_
  refine y_isub (v := 0) rfl (by decide) ?_
  refine x_icgt (tgt := 2893) rfl rfl (br_t (by decide) ?_)
  refine x_iconst (v := 1) rfl ki_1 ?_
  refine x_zret rfl rfl (by first | decide | exact jp_01 _) ?_
  exact hQ _
