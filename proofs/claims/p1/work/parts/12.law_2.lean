def m_L_law : jM := (13, yL_law, cL_law, 4, some .boolean, jlaw_0 ++ (jlaw_1 ++ (jlaw_2 ++ (jlaw_3 ++ (jlaw_4 ++ (jlaw_5 ++ (jlaw_6 ++ (jlaw_7 ++ (jlaw_8 ++ (jlaw_9))))))))))
theorem jfa {P : List (Nat × Instr × Nat) → Prop} {a b : List (List (Nat × Instr × Nat))} (ha : ∀ x ∈ a, P x) (hb : ∀ x ∈ b, P x) : ∀ x ∈ a ++ b, P x := fun x h => (List.mem_append.mp h).elim (ha x) (hb x)
theorem k_L_law : jok m_L_law := jfa jlaw_0_ok (jfa jlaw_1_ok (jfa jlaw_2_ok (jfa jlaw_3_ok (jfa jlaw_4_ok (jfa jlaw_5_ok (jfa jlaw_6_ok (jfa jlaw_7_ok (jfa jlaw_8_ok (jlaw_9_ok)))))))))
