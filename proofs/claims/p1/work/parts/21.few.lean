/-! a script of fewer than seven numbers; both together -/
set_option maxRecDepth 100000 in
theorem law_few {L : Nat} {xs : Nat → Int32} {h : jH} {Q : Option Value → jH → Prop} (hL : L < 7) (O : jOl L xs h) (hQ : ∀ h', Q (some (.int 1)) h') : jX m_L_law 1300 600000 7302249 18 [(3, .int 0), (2, .ref 125), (1, .ref 31), (0, .ref 0)] [] h 143 360892 Q := by
  have hl : L = 0 ∨ L = 1 ∨ L = 2 ∨ L = 3 ∨ L = 4 ∨ L = 5 ∨ L = 6 := by omega
  refine x_iloadn (x := 0) rfl rfl ?_
  refine x_aloadn (x := 0) rfl rfl ?_
  refine y_alen (N := L) (v := nI L) rfl (O 0 (by decide)).1 (by decide) rfl ?_
  refine x_bipush (v := 7) rfl kb_7 ?_
  refine x_isub rfl ?_
  refine x_icgt (tgt := 2893) rfl rfl (br_t ?_ ?_)
  · rcases hl with rfl | rfl | rfl | rfl | rfl | rfl | rfl <;> decide
  · refine x_iconst (v := 1) rfl ki_1 ?_
    refine x_zret rfl rfl (by decide) ?_
    exact hQ _
theorem law_all {L : Nat} {xs : Nat → Int32} {Q : Option Value → jH → Prop} (hL : L ≤ 7) (hQ : ∀ h', Q (some (.int 1)) h') : jX m_L_law 1300 600000 7302249 0 [(0, .ref 0)] [] (jh0 L xs) 0 0 Q := by
  refine law_start (fun h F O => ?_)
  by_cases c : L = 7
  · subst c
    exact law_run (jFb_fr F 31) O F.2.2.2.2.2.2 hQ
  · exact law_few (by omega) O hQ
