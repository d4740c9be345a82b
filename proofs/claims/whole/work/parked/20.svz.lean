/-! what the next rows want besides the tables -/
theorem sg_36_0_16800_14_2_3 : ((36, 0, 16800, 14, 2, 3, 0, 255) : jSg) ∈ jSgX := List.mem_of_getElem? (i := 19) rfl
theorem jk_27 : (27 : Int32).toInt = 27 := by decide
theorem jk_53 : (53 : Int32).toInt = 53 := by decide
theorem read_59b {Dy : jH → Prop} {d : Nat} {ls : jL} {h h0 : jH} {FP : jFp} {x1 x2 x3 : Int32} {Q : Option Value → jH → Prop} (hD : jDk Dy) (J : jJ jSgX Dy h) (Sm : jSm FP h0 h) (hd : Nat.ble 2 d = true) (hl : jsb ls [(0, .ref 95), (1, .int x1), (2, .int x2), (3, .int x3)]) (hQ : ∀ a h', jTx h' a → jJ jSgX Dy h' → jSm FP h0 h' → jSm [] h h' → Q (some (.ref a)) h') : jX m_X2_read d 3 1278 59 ls [] h 0 0 Q :=
  read_59 hD J (jSm_rf [] h) hd hl (fun a h' T J' S4 => hQ a h' T J' (jSm_tr rfl Sm S4) S4)
