/-! the start, with strings -/
def jsB (i : Nat) : List Int32 := ([[98, 101, 108, 111, 110, 103, 32, 101, 120, 101, 109, 112, 116, 32, 114, 97, 116, 101, 32, 114, 101, 108, 105, 101, 102, 32, 98, 97, 100, 103, 101, 32, 116, 117, 114, 110, 32, 102, 101, 101, 32, 115, 101, 97, 116, 32, 115, 116, 114, 105, 107, 101, 32], [99, 108, 97, 117, 115, 101, 32], [98, 105, 114, 116, 104, 32, 104, 105, 114, 101, 32, 114, 101, 110, 116, 32, 111, 102, 102, 105, 99, 101, 32, 119, 101, 100, 32, 112, 97, 114, 101, 110, 116, 115, 32], [99, 104, 117, 114, 99, 104, 32, 119, 97, 121, 32, 112, 111, 111, 114, 32], [99, 111, 110, 115, 116, 97, 98, 108, 101, 32, 115, 117, 114, 118, 101, 121, 111, 114, 32, 111, 118, 101, 114, 115, 101, 101, 114, 32, 119, 97, 114, 100, 101, 110, 32], [98, 101, 108, 108, 32, 103, 114, 97, 118, 101, 32, 119, 101, 100, 100, 105, 110, 103, 32], [97, 103, 101, 32, 99, 104, 105, 108, 100, 114, 101, 110, 32, 118, 97, 108, 117, 101, 32, 121, 101, 97, 114, 115, 32, 114, 101, 108, 105, 101, 118, 101, 100, 32], [105, 102, 32], [117, 110, 108, 101, 115, 115, 32], [110, 111, 116, 32], [109, 97, 114, 114, 105, 101, 100, 32, 100, 101, 97, 100, 32, 112, 111, 111, 114, 32, 104, 111, 108, 100, 115, 32, 99, 101, 114, 116, 105, 102, 105, 101, 100, 32], [97, 110, 100, 32], [111, 114, 32]] : List (List Int32)).getD i []
def jhZ (L : Nat) (xs : Nat → Int32) : jH := ((fun a => if a = 0 then (100, L) else if a = 1 then (100, 6) else if a = 2 then (100, 6) else if a = 3 then (100, 8) else if a = 4 then (100, 8) else if (Nat.ble 18 a && Nat.blt a 31) = true then (103, (jsB (a - 18)).length) else (999, 0)), (fun a k => if a = 0 then xs k else if a = 1 then ([3, 2, 1, 1, 1, 1] : List Int32).getD k 0 else if a = 2 then ([0, 3, 5, 6, 7, 8] : List Int32).getD k 0 else if a = 3 then ([2, 2, 2, 3, 6, 6, 6, 7] : List Int32).getD k 0 else if a = 4 then ([0, 1, 2, 0, 0, 1, 2, 0] : List Int32).getD k 0 else if (Nat.ble 18 a && Nat.blt a 31) = true then (jsB (a - 18)).getD k 0 else 0), (fun _ _ => 0), (fun _ _ => none), 31)
/-- what old cells hold -/
def jOlZ (L : Nat) (xs : Nat → Int32) (h : jH) : Prop := ∀ a, a < 31 → jsh h a = jsh (jhZ L xs) a ∧ ∀ k, jiv h a k = jiv (jhZ L xs) a k
theorem jOlZ_of {L : Nat} {xs : Nat → Int32} {h : jH} (e1 : (List.range 31).map (fun a => jsh h a) = (List.range 31).map (fun a => jsh (jhZ L xs) a)) (e2 : (List.range 31).map (fun a => jiv h a) = (List.range 31).map (fun a => jiv (jhZ L xs) a)) : jOlZ L xs h := fun a ha => ⟨List.map_inj_left.mp e1 a (List.mem_range.mpr ha), fun k => congrFun (List.map_inj_left.mp e2 a (List.mem_range.mpr ha)) k⟩
set_option maxRecDepth 100000 in
set_option maxHeartbeats 40000000 in
theorem law_startZ {L : Nat} {xs : Nat → Int32} {Q : Option Value → jH → Prop} (kk : ∀ h, jFr h → jOlZ L xs h → jX m_L_law 1300 600000 7302250 18 [(3, .int 0), (2, .ref 125), (1, .ref 31), (0, .ref 0)] [] h 143 360892 Q) : jX m_L_law 1300 600000 7302250 0 [(0, .ref 0)] [] (jhZ L xs) 0 0 Q := by
  refine y_new 31 11 13 rfl v_13_7 rfl ⟨by decide, by decide⟩ ?_
  show jX m_L_law 1300 600000 7302250 3 [(0, .ref 0)] [.ref 31] _ 1 13 _
  refine x_dup rfl rfl ?_
  refine x_ins (N := m_X11_init) (As := []) (b := 31) (st := [.ref 31]) (dx9 := 1299) (mc := 93) (ms := 92549) (host := "") rfl t_X11_init ⟨Or.inl q_13_9, i_X11_init, rfl, rfl⟩ rfl (by decide) rfl rfl ⟨by decide, by decide⟩ (jC.of rfl k_X11_init rfl ?_)
  show jX m_X11_init 1299 93 92549 0 [(0, .ref 31)] [] _ 0 0 _
  refine x_aloadn (x := 31) rfl rfl ?_
  refine x_obj rfl ⟨q_11_1, jobj_w⟩ (by decide) rfl ?_
  refine x_aloadn (x := 31) rfl rfl ?_
  refine y_new 32 1 20 rfl v_11_7 rfl ⟨by decide, by decide⟩ ?_
  show jX m_X11_init 1299 93 92549 8 [(0, .ref 31)] [.ref 32, .ref 31] _ 1 20 _
  refine x_dup rfl rfl ?_
  refine x_ins (N := m_X1_init) (As := []) (b := 32) (st := [.ref 32, .ref 31]) (dx9 := 1298) (mc := 34) (ms := 24574) (host := "ParishChest") rfl t_X1_init ⟨Or.inr q_11_9, i_X1_init, rfl, rfl⟩ rfl (by decide) rfl rfl ⟨by decide, by decide⟩ (jC.of rfl k_X1_init rfl ?_)
  show jX m_X1_init 1298 34 24574 0 [(0, .ref 32)] [] _ 0 0 _
  refine x_aloadn (x := 32) rfl rfl ?_
  refine x_obj rfl ⟨q_1_3, jobj_w⟩ (by decide) rfl ?_
  refine x_aloadn (x := 32) rfl rfl ?_
  refine y_new 33 8 4 rfl v_1_9 rfl ⟨by decide, by decide⟩ ?_
  show jX m_X1_init 1298 34 24574 8 [(0, .ref 32)] [.ref 33, .ref 32] _ 1 4 _
  refine x_dup rfl rfl ?_
  refine x_bipush (v := 6) rfl kb_6 ?_
  refine x_sipush (v := 200) rfl ks_200 ?_
  refine x_ins (N := m_X8_init) (As := [.int 6, .int 200]) (b := 33) (st := [.ref 33, .ref 32]) (dx9 := 1297) (mc := 1) (ms := 1200) (host := "") rfl t_X8_init ⟨Or.inl q_1_11, i_X8_init, rfl, rfl⟩ rfl (by decide) rfl rfl ⟨by decide, by decide⟩ (jC.of rfl k_X8_init rfl ?_)
  show jX m_X8_init 1297 1 1200 0 [(0, .ref 33), (1, .int 6), (2, .int 200)] [] _ 0 0 _
  refine x_aloadn (x := 33) rfl rfl ?_
  refine x_obj rfl ⟨q_8_1, jobj_w⟩ (by decide) rfl ?_
  refine x_aloadn (x := 33) rfl rfl ?_
  refine x_iconst (v := 0) rfl ki_0 ?_
  refine x_putI 8 3 rfl f_8_7 rfl (jfin_no TX8 RX8 4 rfl rfl) rfl rfl ?_
  refine x_aloadn (x := 33) rfl rfl ?_
  refine x_iconst (v := 1) rfl ki_1 ?_
  refine x_iloadn (x := 6) rfl rfl ?_
  refine x_mmax rfl q_8_13 (by decide) rfl (br_t (by decide) ?_)
  refine x_putI 8 0 rfl f_8_19 rfl (jfin_in TX8 RX8 4 rfl rfl rfl rfl) rfl rfl ?_
  refine x_aloadn (x := 33) rfl rfl ?_
  refine x_iconst (v := 0) rfl ki_0 ?_
  refine x_iloadn (x := 200) rfl rfl ?_
  refine x_mmax rfl q_8_13 (by decide) rfl (br_t (by decide) ?_)
  refine x_putI 8 1 rfl f_8_22 rfl (jfin_in TX8 RX8 4 rfl rfl rfl rfl) rfl rfl ?_
  refine x_aloadn (x := 33) rfl rfl ?_
  refine x_aloadn (x := 33) rfl rfl ?_
  refine y_getI (v := 6) 8 0 rfl f_8_19 rfl rfl rfl ?_
  refine x_aloadn (x := 33) rfl rfl ?_
  refine y_getI (v := 200) 8 1 rfl f_8_22 rfl rfl rfl ?_
  refine y_imul (v := 1200) rfl (by decide) ?_
  refine y_newa2 (v := 1200) 34 100 1200 rfl ⟨rfl, by decide, by decide⟩ jac_int (by decide) (by decide) (by decide) rfl ⟨by decide, by decide⟩ ?_
  show jX m_X8_init 1297 1 1200 39 [(0, .ref 33), (1, .int 6), (2, .int 200)] [.ref 34, .ref 33] _ 1 1200 _
  refine x_putR 8 2 rfl f_8_25 rfl (jfin_in TX8 RX8 4 rfl rfl rfl rfl) rfl rfl ?_
  refine x_vret rfl rfl ?_
  show jX m_X1_init 1298 34 24574 17 [(0, .ref 32)] [.ref 33, .ref 32] _ 2 1204 _
  refine x_putR 1 0 rfl f_1_14 rfl (jfin_in TX1 RX1 20 rfl rfl rfl rfl) rfl rfl ?_
  refine x_aloadn (x := 32) rfl rfl ?_
  refine y_new 35 8 4 rfl v_1_9 rfl ⟨by decide, by decide⟩ ?_
  show jX m_X1_init 1298 34 24574 24 [(0, .ref 32)] [.ref 35, .ref 32] _ 3 1208 _
  refine x_dup rfl rfl ?_
  refine x_bipush (v := 14) rfl kb_14 ?_
  refine x_sipush (v := 1200) rfl ks_1200 ?_
  refine x_ins (N := m_X8_init) (As := [.int 14, .int 1200]) (b := 35) (st := [.ref 35, .ref 32]) (dx9 := 1297) (mc := 1) (ms := 16800) (host := "") rfl t_X8_init ⟨Or.inl q_1_11, i_X8_init, rfl, rfl⟩ rfl (by decide) rfl rfl ⟨by decide, by decide⟩ (jC.of rfl k_X8_init rfl ?_)
  show jX m_X8_init 1297 1 16800 0 [(0, .ref 35), (1, .int 14), (2, .int 1200)] [] _ 0 0 _
  refine x_aloadn (x := 35) rfl rfl ?_
  refine x_obj rfl ⟨q_8_1, jobj_w⟩ (by decide) rfl ?_
  refine x_aloadn (x := 35) rfl rfl ?_
  refine x_iconst (v := 0) rfl ki_0 ?_
  refine x_putI 8 3 rfl f_8_7 rfl (jfin_no TX8 RX8 4 rfl rfl) rfl rfl ?_
  refine x_aloadn (x := 35) rfl rfl ?_
  refine x_iconst (v := 1) rfl ki_1 ?_
  refine x_iloadn (x := 14) rfl rfl ?_
  refine x_mmax rfl q_8_13 (by decide) rfl (br_t (by decide) ?_)
  refine x_putI 8 0 rfl f_8_19 rfl (jfin_in TX8 RX8 4 rfl rfl rfl rfl) rfl rfl ?_
  refine x_aloadn (x := 35) rfl rfl ?_
  refine x_iconst (v := 0) rfl ki_0 ?_
  refine x_iloadn (x := 1200) rfl rfl ?_
  refine x_mmax rfl q_8_13 (by decide) rfl (br_t (by decide) ?_)
  refine x_putI 8 1 rfl f_8_22 rfl (jfin_in TX8 RX8 4 rfl rfl rfl rfl) rfl rfl ?_
  refine x_aloadn (x := 35) rfl rfl ?_
  refine x_aloadn (x := 35) rfl rfl ?_
  refine y_getI (v := 14) 8 0 rfl f_8_19 rfl rfl rfl ?_
  refine x_aloadn (x := 35) rfl rfl ?_
  refine y_getI (v := 1200) 8 1 rfl f_8_22 rfl rfl rfl ?_
  refine y_imul (v := 16800) rfl (by decide) ?_
  refine y_newa2 (v := 16800) 36 100 16800 rfl ⟨rfl, by decide, by decide⟩ jac_int (by decide) (by decide) (by decide) rfl ⟨by decide, by decide⟩ ?_
  show jX m_X8_init 1297 1 16800 39 [(0, .ref 35), (1, .int 14), (2, .int 1200)] [.ref 36, .ref 35] _ 1 16800 _
  refine x_putR 8 2 rfl f_8_25 rfl (jfin_in TX8 RX8 4 rfl rfl rfl rfl) rfl rfl ?_
  refine x_vret rfl rfl ?_
  show jX m_X1_init 1298 34 24574 33 [(0, .ref 32)] [.ref 35, .ref 32] _ 4 18008 _
  refine x_putR 1 1 rfl f_1_20 rfl (jfin_in TX1 RX1 20 rfl rfl rfl rfl) rfl rfl ?_
  refine x_aloadn (x := 32) rfl rfl ?_
  refine y_new 37 8 4 rfl v_1_9 rfl ⟨by decide, by decide⟩ ?_
  show jX m_X1_init 1298 34 24574 40 [(0, .ref 32)] [.ref 37, .ref 32] _ 5 18012 _
  refine x_dup rfl rfl ?_
  refine x_iconst (v := 2) rfl ki_2 ?_
  refine x_bipush (v := 60) rfl kb_60 ?_
  refine x_ins (N := m_X8_init) (As := [.int 2, .int 60]) (b := 37) (st := [.ref 37, .ref 32]) (dx9 := 1297) (mc := 1) (ms := 120) (host := "") rfl t_X8_init ⟨Or.inl q_1_11, i_X8_init, rfl, rfl⟩ rfl (by decide) rfl rfl ⟨by decide, by decide⟩ (jC.of rfl k_X8_init rfl ?_)
  show jX m_X8_init 1297 1 120 0 [(0, .ref 37), (1, .int 2), (2, .int 60)] [] _ 0 0 _
  refine x_aloadn (x := 37) rfl rfl ?_
  refine x_obj rfl ⟨q_8_1, jobj_w⟩ (by decide) rfl ?_
  refine x_aloadn (x := 37) rfl rfl ?_
  refine x_iconst (v := 0) rfl ki_0 ?_
  refine x_putI 8 3 rfl f_8_7 rfl (jfin_no TX8 RX8 4 rfl rfl) rfl rfl ?_
  refine x_aloadn (x := 37) rfl rfl ?_
  refine x_iconst (v := 1) rfl ki_1 ?_
  refine x_iloadn (x := 2) rfl rfl ?_
  refine x_mmax rfl q_8_13 (by decide) rfl (br_t (by decide) ?_)
  refine x_putI 8 0 rfl f_8_19 rfl (jfin_in TX8 RX8 4 rfl rfl rfl rfl) rfl rfl ?_
  refine x_aloadn (x := 37) rfl rfl ?_
  refine x_iconst (v := 0) rfl ki_0 ?_
  refine x_iloadn (x := 60) rfl rfl ?_
  refine x_mmax rfl q_8_13 (by decide) rfl (br_t (by decide) ?_)
  refine x_putI 8 1 rfl f_8_22 rfl (jfin_in TX8 RX8 4 rfl rfl rfl rfl) rfl rfl ?_
  refine x_aloadn (x := 37) rfl rfl ?_
  refine x_aloadn (x := 37) rfl rfl ?_
  refine y_getI (v := 2) 8 0 rfl f_8_19 rfl rfl rfl ?_
  refine x_aloadn (x := 37) rfl rfl ?_
  refine y_getI (v := 60) 8 1 rfl f_8_22 rfl rfl rfl ?_
  refine y_imul (v := 120) rfl (by decide) ?_
  refine y_newa2 (v := 120) 38 100 120 rfl ⟨rfl, by decide, by decide⟩ jac_int (by decide) (by decide) (by decide) rfl ⟨by decide, by decide⟩ ?_
  show jX m_X8_init 1297 1 120 39 [(0, .ref 37), (1, .int 2), (2, .int 60)] [.ref 38, .ref 37] _ 1 120 _
  refine x_putR 8 2 rfl f_8_25 rfl (jfin_in TX8 RX8 4 rfl rfl rfl rfl) rfl rfl ?_
  refine x_vret rfl rfl ?_
  show jX m_X1_init 1298 34 24574 47 [(0, .ref 32)] [.ref 37, .ref 32] _ 6 18132 _
  refine x_putR 1 2 rfl f_1_23 rfl (jfin_in TX1 RX1 20 rfl rfl rfl rfl) rfl rfl ?_
  refine x_aloadn (x := 32) rfl rfl ?_
  refine y_new 39 8 4 rfl v_1_9 rfl ⟨by decide, by decide⟩ ?_
  show jX m_X1_init 1298 34 24574 54 [(0, .ref 32)] [.ref 39, .ref 32] _ 7 18136 _
  refine x_dup rfl rfl ?_
  refine x_iconst (v := 3) rfl ki_3 ?_
  refine x_sipush (v := 200) rfl ks_200 ?_
  refine x_ins (N := m_X8_init) (As := [.int 3, .int 200]) (b := 39) (st := [.ref 39, .ref 32]) (dx9 := 1297) (mc := 1) (ms := 600) (host := "") rfl t_X8_init ⟨Or.inl q_1_11, i_X8_init, rfl, rfl⟩ rfl (by decide) rfl rfl ⟨by decide, by decide⟩ (jC.of rfl k_X8_init rfl ?_)
  show jX m_X8_init 1297 1 600 0 [(0, .ref 39), (1, .int 3), (2, .int 200)] [] _ 0 0 _
  refine x_aloadn (x := 39) rfl rfl ?_
  refine x_obj rfl ⟨q_8_1, jobj_w⟩ (by decide) rfl ?_
  refine x_aloadn (x := 39) rfl rfl ?_
  refine x_iconst (v := 0) rfl ki_0 ?_
  refine x_putI 8 3 rfl f_8_7 rfl (jfin_no TX8 RX8 4 rfl rfl) rfl rfl ?_
  refine x_aloadn (x := 39) rfl rfl ?_
  refine x_iconst (v := 1) rfl ki_1 ?_
  refine x_iloadn (x := 3) rfl rfl ?_
  refine x_mmax rfl q_8_13 (by decide) rfl (br_t (by decide) ?_)
  refine x_putI 8 0 rfl f_8_19 rfl (jfin_in TX8 RX8 4 rfl rfl rfl rfl) rfl rfl ?_
  refine x_aloadn (x := 39) rfl rfl ?_
  refine x_iconst (v := 0) rfl ki_0 ?_
  refine x_iloadn (x := 200) rfl rfl ?_
  refine x_mmax rfl q_8_13 (by decide) rfl (br_t (by decide) ?_)
  refine x_putI 8 1 rfl f_8_22 rfl (jfin_in TX8 RX8 4 rfl rfl rfl rfl) rfl rfl ?_
  refine x_aloadn (x := 39) rfl rfl ?_
  refine x_aloadn (x := 39) rfl rfl ?_
  refine y_getI (v := 3) 8 0 rfl f_8_19 rfl rfl rfl ?_
  refine x_aloadn (x := 39) rfl rfl ?_
  refine y_getI (v := 200) 8 1 rfl f_8_22 rfl rfl rfl ?_
  refine y_imul (v := 600) rfl (by decide) ?_
  refine y_newa2 (v := 600) 40 100 600 rfl ⟨rfl, by decide, by decide⟩ jac_int (by decide) (by decide) (by decide) rfl ⟨by decide, by decide⟩ ?_
  show jX m_X8_init 1297 1 600 39 [(0, .ref 39), (1, .int 3), (2, .int 200)] [.ref 40, .ref 39] _ 1 600 _
  refine x_putR 8 2 rfl f_8_25 rfl (jfin_in TX8 RX8 4 rfl rfl rfl rfl) rfl rfl ?_
  refine x_vret rfl rfl ?_
  show jX m_X1_init 1298 34 24574 62 [(0, .ref 32)] [.ref 39, .ref 32] _ 8 18736 _
  refine x_putR 1 3 rfl f_1_26 rfl (jfin_in TX1 RX1 20 rfl rfl rfl rfl) rfl rfl ?_
  refine x_aloadn (x := 32) rfl rfl ?_
  refine y_new 41 8 4 rfl v_1_9 rfl ⟨by decide, by decide⟩ ?_
  show jX m_X1_init 1298 34 24574 69 [(0, .ref 32)] [.ref 41, .ref 32] _ 9 18740 _
  refine x_dup rfl rfl ?_
  refine x_iconst (v := 4) rfl ki_4 ?_
  refine x_bipush (v := 20) rfl kb_20 ?_
  refine x_ins (N := m_X8_init) (As := [.int 4, .int 20]) (b := 41) (st := [.ref 41, .ref 32]) (dx9 := 1297) (mc := 1) (ms := 80) (host := "") rfl t_X8_init ⟨Or.inl q_1_11, i_X8_init, rfl, rfl⟩ rfl (by decide) rfl rfl ⟨by decide, by decide⟩ (jC.of rfl k_X8_init rfl ?_)
  show jX m_X8_init 1297 1 80 0 [(0, .ref 41), (1, .int 4), (2, .int 20)] [] _ 0 0 _
  refine x_aloadn (x := 41) rfl rfl ?_
  refine x_obj rfl ⟨q_8_1, jobj_w⟩ (by decide) rfl ?_
  refine x_aloadn (x := 41) rfl rfl ?_
  refine x_iconst (v := 0) rfl ki_0 ?_
  refine x_putI 8 3 rfl f_8_7 rfl (jfin_no TX8 RX8 4 rfl rfl) rfl rfl ?_
  refine x_aloadn (x := 41) rfl rfl ?_
  refine x_iconst (v := 1) rfl ki_1 ?_
  refine x_iloadn (x := 4) rfl rfl ?_
  refine x_mmax rfl q_8_13 (by decide) rfl (br_t (by decide) ?_)
  refine x_putI 8 0 rfl f_8_19 rfl (jfin_in TX8 RX8 4 rfl rfl rfl rfl) rfl rfl ?_
  refine x_aloadn (x := 41) rfl rfl ?_
  refine x_iconst (v := 0) rfl ki_0 ?_
  refine x_iloadn (x := 20) rfl rfl ?_
  refine x_mmax rfl q_8_13 (by decide) rfl (br_t (by decide) ?_)
  refine x_putI 8 1 rfl f_8_22 rfl (jfin_in TX8 RX8 4 rfl rfl rfl rfl) rfl rfl ?_
  refine x_aloadn (x := 41) rfl rfl ?_
  refine x_aloadn (x := 41) rfl rfl ?_
  refine y_getI (v := 4) 8 0 rfl f_8_19 rfl rfl rfl ?_
  refine x_aloadn (x := 41) rfl rfl ?_
  refine y_getI (v := 20) 8 1 rfl f_8_22 rfl rfl rfl ?_
  refine y_imul (v := 80) rfl (by decide) ?_
  refine y_newa2 (v := 80) 42 100 80 rfl ⟨rfl, by decide, by decide⟩ jac_int (by decide) (by decide) (by decide) rfl ⟨by decide, by decide⟩ ?_
  show jX m_X8_init 1297 1 80 39 [(0, .ref 41), (1, .int 4), (2, .int 20)] [.ref 42, .ref 41] _ 1 80 _
  refine x_putR 8 2 rfl f_8_25 rfl (jfin_in TX8 RX8 4 rfl rfl rfl rfl) rfl rfl ?_
  refine x_vret rfl rfl ?_
  show jX m_X1_init 1298 34 24574 76 [(0, .ref 32)] [.ref 41, .ref 32] _ 10 18820 _
  refine x_putR 1 4 rfl f_1_29 rfl (jfin_in TX1 RX1 20 rfl rfl rfl rfl) rfl rfl ?_
  refine x_aloadn (x := 32) rfl rfl ?_
  refine y_new 43 8 4 rfl v_1_9 rfl ⟨by decide, by decide⟩ ?_
  show jX m_X1_init 1298 34 24574 83 [(0, .ref 32)] [.ref 43, .ref 32] _ 11 18824 _
  refine x_dup rfl rfl ?_
  refine x_bipush (v := 6) rfl kb_6 ?_
  refine x_bipush (v := 100) rfl kb_100 ?_
  refine x_ins (N := m_X8_init) (As := [.int 6, .int 100]) (b := 43) (st := [.ref 43, .ref 32]) (dx9 := 1297) (mc := 1) (ms := 600) (host := "") rfl t_X8_init ⟨Or.inl q_1_11, i_X8_init, rfl, rfl⟩ rfl (by decide) rfl rfl ⟨by decide, by decide⟩ (jC.of rfl k_X8_init rfl ?_)
  show jX m_X8_init 1297 1 600 0 [(0, .ref 43), (1, .int 6), (2, .int 100)] [] _ 0 0 _
  refine x_aloadn (x := 43) rfl rfl ?_
  refine x_obj rfl ⟨q_8_1, jobj_w⟩ (by decide) rfl ?_
  refine x_aloadn (x := 43) rfl rfl ?_
  refine x_iconst (v := 0) rfl ki_0 ?_
  refine x_putI 8 3 rfl f_8_7 rfl (jfin_no TX8 RX8 4 rfl rfl) rfl rfl ?_
  refine x_aloadn (x := 43) rfl rfl ?_
  refine x_iconst (v := 1) rfl ki_1 ?_
  refine x_iloadn (x := 6) rfl rfl ?_
  refine x_mmax rfl q_8_13 (by decide) rfl (br_t (by decide) ?_)
  refine x_putI 8 0 rfl f_8_19 rfl (jfin_in TX8 RX8 4 rfl rfl rfl rfl) rfl rfl ?_
  refine x_aloadn (x := 43) rfl rfl ?_
  refine x_iconst (v := 0) rfl ki_0 ?_
  refine x_iloadn (x := 100) rfl rfl ?_
  refine x_mmax rfl q_8_13 (by decide) rfl (br_t (by decide) ?_)
  refine x_putI 8 1 rfl f_8_22 rfl (jfin_in TX8 RX8 4 rfl rfl rfl rfl) rfl rfl ?_
  refine x_aloadn (x := 43) rfl rfl ?_
  refine x_aloadn (x := 43) rfl rfl ?_
  refine y_getI (v := 6) 8 0 rfl f_8_19 rfl rfl rfl ?_
  refine x_aloadn (x := 43) rfl rfl ?_
  refine y_getI (v := 100) 8 1 rfl f_8_22 rfl rfl rfl ?_
  refine y_imul (v := 600) rfl (by decide) ?_
  refine y_newa2 (v := 600) 44 100 600 rfl ⟨rfl, by decide, by decide⟩ jac_int (by decide) (by decide) (by decide) rfl ⟨by decide, by decide⟩ ?_
  show jX m_X8_init 1297 1 600 39 [(0, .ref 43), (1, .int 6), (2, .int 100)] [.ref 44, .ref 43] _ 1 600 _
  refine x_putR 8 2 rfl f_8_25 rfl (jfin_in TX8 RX8 4 rfl rfl rfl rfl) rfl rfl ?_
  refine x_vret rfl rfl ?_
  show jX m_X1_init 1298 34 24574 91 [(0, .ref 32)] [.ref 43, .ref 32] _ 12 19424 _
  refine x_putR 1 5 rfl f_1_32 rfl (jfin_in TX1 RX1 20 rfl rfl rfl rfl) rfl rfl ?_
  refine x_aloadn (x := 32) rfl rfl ?_
  refine y_new 45 8 4 rfl v_1_9 rfl ⟨by decide, by decide⟩ ?_
  show jX m_X1_init 1298 34 24574 98 [(0, .ref 32)] [.ref 45, .ref 32] _ 13 19428 _
  refine x_dup rfl rfl ?_
  refine x_iconst (v := 3) rfl ki_3 ?_
  refine x_bipush (v := 40) rfl kb_40 ?_
  refine x_ins (N := m_X8_init) (As := [.int 3, .int 40]) (b := 45) (st := [.ref 45, .ref 32]) (dx9 := 1297) (mc := 1) (ms := 120) (host := "") rfl t_X8_init ⟨Or.inl q_1_11, i_X8_init, rfl, rfl⟩ rfl (by decide) rfl rfl ⟨by decide, by decide⟩ (jC.of rfl k_X8_init rfl ?_)
  show jX m_X8_init 1297 1 120 0 [(0, .ref 45), (1, .int 3), (2, .int 40)] [] _ 0 0 _
  refine x_aloadn (x := 45) rfl rfl ?_
  refine x_obj rfl ⟨q_8_1, jobj_w⟩ (by decide) rfl ?_
  refine x_aloadn (x := 45) rfl rfl ?_
  refine x_iconst (v := 0) rfl ki_0 ?_
  refine x_putI 8 3 rfl f_8_7 rfl (jfin_no TX8 RX8 4 rfl rfl) rfl rfl ?_
  refine x_aloadn (x := 45) rfl rfl ?_
  refine x_iconst (v := 1) rfl ki_1 ?_
  refine x_iloadn (x := 3) rfl rfl ?_
  refine x_mmax rfl q_8_13 (by decide) rfl (br_t (by decide) ?_)
  refine x_putI 8 0 rfl f_8_19 rfl (jfin_in TX8 RX8 4 rfl rfl rfl rfl) rfl rfl ?_
  refine x_aloadn (x := 45) rfl rfl ?_
  refine x_iconst (v := 0) rfl ki_0 ?_
  refine x_iloadn (x := 40) rfl rfl ?_
  refine x_mmax rfl q_8_13 (by decide) rfl (br_t (by decide) ?_)
  refine x_putI 8 1 rfl f_8_22 rfl (jfin_in TX8 RX8 4 rfl rfl rfl rfl) rfl rfl ?_
  refine x_aloadn (x := 45) rfl rfl ?_
  refine x_aloadn (x := 45) rfl rfl ?_
  refine y_getI (v := 3) 8 0 rfl f_8_19 rfl rfl rfl ?_
  refine x_aloadn (x := 45) rfl rfl ?_
  refine y_getI (v := 40) 8 1 rfl f_8_22 rfl rfl rfl ?_
  refine y_imul (v := 120) rfl (by decide) ?_
  refine y_newa2 (v := 120) 46 100 120 rfl ⟨rfl, by decide, by decide⟩ jac_int (by decide) (by decide) (by decide) rfl ⟨by decide, by decide⟩ ?_
  show jX m_X8_init 1297 1 120 39 [(0, .ref 45), (1, .int 3), (2, .int 40)] [.ref 46, .ref 45] _ 1 120 _
  refine x_putR 8 2 rfl f_8_25 rfl (jfin_in TX8 RX8 4 rfl rfl rfl rfl) rfl rfl ?_
  refine x_vret rfl rfl ?_
  show jX m_X1_init 1298 34 24574 105 [(0, .ref 32)] [.ref 45, .ref 32] _ 14 19548 _
  refine x_putR 1 6 rfl f_1_35 rfl (jfin_in TX1 RX1 20 rfl rfl rfl rfl) rfl rfl ?_
  refine x_aloadn (x := 32) rfl rfl ?_
  refine y_new 47 8 4 rfl v_1_9 rfl ⟨by decide, by decide⟩ ?_
  show jX m_X1_init 1298 34 24574 112 [(0, .ref 32)] [.ref 47, .ref 32] _ 15 19552 _
  refine x_dup rfl rfl ?_
  refine x_iconst (v := 4) rfl ki_4 ?_
  refine x_bipush (v := 100) rfl kb_100 ?_
  refine x_ins (N := m_X8_init) (As := [.int 4, .int 100]) (b := 47) (st := [.ref 47, .ref 32]) (dx9 := 1297) (mc := 1) (ms := 400) (host := "") rfl t_X8_init ⟨Or.inl q_1_11, i_X8_init, rfl, rfl⟩ rfl (by decide) rfl rfl ⟨by decide, by decide⟩ (jC.of rfl k_X8_init rfl ?_)
  show jX m_X8_init 1297 1 400 0 [(0, .ref 47), (1, .int 4), (2, .int 100)] [] _ 0 0 _
  refine x_aloadn (x := 47) rfl rfl ?_
  refine x_obj rfl ⟨q_8_1, jobj_w⟩ (by decide) rfl ?_
  refine x_aloadn (x := 47) rfl rfl ?_
  refine x_iconst (v := 0) rfl ki_0 ?_
  refine x_putI 8 3 rfl f_8_7 rfl (jfin_no TX8 RX8 4 rfl rfl) rfl rfl ?_
  refine x_aloadn (x := 47) rfl rfl ?_
  refine x_iconst (v := 1) rfl ki_1 ?_
  refine x_iloadn (x := 4) rfl rfl ?_
  refine x_mmax rfl q_8_13 (by decide) rfl (br_t (by decide) ?_)
  refine x_putI 8 0 rfl f_8_19 rfl (jfin_in TX8 RX8 4 rfl rfl rfl rfl) rfl rfl ?_
  refine x_aloadn (x := 47) rfl rfl ?_
  refine x_iconst (v := 0) rfl ki_0 ?_
  refine x_iloadn (x := 100) rfl rfl ?_
  refine x_mmax rfl q_8_13 (by decide) rfl (br_t (by decide) ?_)
  refine x_putI 8 1 rfl f_8_22 rfl (jfin_in TX8 RX8 4 rfl rfl rfl rfl) rfl rfl ?_
  refine x_aloadn (x := 47) rfl rfl ?_
  refine x_aloadn (x := 47) rfl rfl ?_
  refine y_getI (v := 4) 8 0 rfl f_8_19 rfl rfl rfl ?_
  refine x_aloadn (x := 47) rfl rfl ?_
  refine y_getI (v := 100) 8 1 rfl f_8_22 rfl rfl rfl ?_
  refine y_imul (v := 400) rfl (by decide) ?_
  refine y_newa2 (v := 400) 48 100 400 rfl ⟨rfl, by decide, by decide⟩ jac_int (by decide) (by decide) (by decide) rfl ⟨by decide, by decide⟩ ?_
  show jX m_X8_init 1297 1 400 39 [(0, .ref 47), (1, .int 4), (2, .int 100)] [.ref 48, .ref 47] _ 1 400 _
  refine x_putR 8 2 rfl f_8_25 rfl (jfin_in TX8 RX8 4 rfl rfl rfl rfl) rfl rfl ?_
  refine x_vret rfl rfl ?_
  show jX m_X1_init 1298 34 24574 119 [(0, .ref 32)] [.ref 47, .ref 32] _ 16 19952 _
  refine x_putR 1 7 rfl f_1_38 rfl (jfin_in TX1 RX1 20 rfl rfl rfl rfl) rfl rfl ?_
  refine x_aloadn (x := 32) rfl rfl ?_
  refine y_new 49 8 4 rfl v_1_9 rfl ⟨by decide, by decide⟩ ?_
  show jX m_X1_init 1298 34 24574 126 [(0, .ref 32)] [.ref 49, .ref 32] _ 17 19956 _
  refine x_dup rfl rfl ?_
  refine x_iconst (v := 5) rfl ki_5 ?_
  refine x_bipush (v := 40) rfl kb_40 ?_
  refine x_ins (N := m_X8_init) (As := [.int 5, .int 40]) (b := 49) (st := [.ref 49, .ref 32]) (dx9 := 1297) (mc := 1) (ms := 200) (host := "") rfl t_X8_init ⟨Or.inl q_1_11, i_X8_init, rfl, rfl⟩ rfl (by decide) rfl rfl ⟨by decide, by decide⟩ (jC.of rfl k_X8_init rfl ?_)
  show jX m_X8_init 1297 1 200 0 [(0, .ref 49), (1, .int 5), (2, .int 40)] [] _ 0 0 _
  refine x_aloadn (x := 49) rfl rfl ?_
  refine x_obj rfl ⟨q_8_1, jobj_w⟩ (by decide) rfl ?_
  refine x_aloadn (x := 49) rfl rfl ?_
  refine x_iconst (v := 0) rfl ki_0 ?_
  refine x_putI 8 3 rfl f_8_7 rfl (jfin_no TX8 RX8 4 rfl rfl) rfl rfl ?_
  refine x_aloadn (x := 49) rfl rfl ?_
  refine x_iconst (v := 1) rfl ki_1 ?_
  refine x_iloadn (x := 5) rfl rfl ?_
  refine x_mmax rfl q_8_13 (by decide) rfl (br_t (by decide) ?_)
  refine x_putI 8 0 rfl f_8_19 rfl (jfin_in TX8 RX8 4 rfl rfl rfl rfl) rfl rfl ?_
  refine x_aloadn (x := 49) rfl rfl ?_
  refine x_iconst (v := 0) rfl ki_0 ?_
  refine x_iloadn (x := 40) rfl rfl ?_
  refine x_mmax rfl q_8_13 (by decide) rfl (br_t (by decide) ?_)
  refine x_putI 8 1 rfl f_8_22 rfl (jfin_in TX8 RX8 4 rfl rfl rfl rfl) rfl rfl ?_
  refine x_aloadn (x := 49) rfl rfl ?_
  refine x_aloadn (x := 49) rfl rfl ?_
  refine y_getI (v := 5) 8 0 rfl f_8_19 rfl rfl rfl ?_
  refine x_aloadn (x := 49) rfl rfl ?_
  refine y_getI (v := 40) 8 1 rfl f_8_22 rfl rfl rfl ?_
  refine y_imul (v := 200) rfl (by decide) ?_
  refine y_newa2 (v := 200) 50 100 200 rfl ⟨rfl, by decide, by decide⟩ jac_int (by decide) (by decide) (by decide) rfl ⟨by decide, by decide⟩ ?_
  show jX m_X8_init 1297 1 200 39 [(0, .ref 49), (1, .int 5), (2, .int 40)] [.ref 50, .ref 49] _ 1 200 _
  refine x_putR 8 2 rfl f_8_25 rfl (jfin_in TX8 RX8 4 rfl rfl rfl rfl) rfl rfl ?_
  refine x_vret rfl rfl ?_
  show jX m_X1_init 1298 34 24574 133 [(0, .ref 32)] [.ref 49, .ref 32] _ 18 20156 _
  refine x_putR 1 8 rfl f_1_41 rfl (jfin_in TX1 RX1 20 rfl rfl rfl rfl) rfl rfl ?_
  refine x_aloadn (x := 32) rfl rfl ?_
  refine y_new 51 8 4 rfl v_1_9 rfl ⟨by decide, by decide⟩ ?_
  show jX m_X1_init 1298 34 24574 140 [(0, .ref 32)] [.ref 51, .ref 32] _ 19 20160 _
  refine x_dup rfl rfl ?_
  refine x_iconst (v := 4) rfl ki_4 ?_
  refine x_bipush (v := 100) rfl kb_100 ?_
  refine x_ins (N := m_X8_init) (As := [.int 4, .int 100]) (b := 51) (st := [.ref 51, .ref 32]) (dx9 := 1297) (mc := 1) (ms := 400) (host := "") rfl t_X8_init ⟨Or.inl q_1_11, i_X8_init, rfl, rfl⟩ rfl (by decide) rfl rfl ⟨by decide, by decide⟩ (jC.of rfl k_X8_init rfl ?_)
  show jX m_X8_init 1297 1 400 0 [(0, .ref 51), (1, .int 4), (2, .int 100)] [] _ 0 0 _
  refine x_aloadn (x := 51) rfl rfl ?_
  refine x_obj rfl ⟨q_8_1, jobj_w⟩ (by decide) rfl ?_
  refine x_aloadn (x := 51) rfl rfl ?_
  refine x_iconst (v := 0) rfl ki_0 ?_
  refine x_putI 8 3 rfl f_8_7 rfl (jfin_no TX8 RX8 4 rfl rfl) rfl rfl ?_
  refine x_aloadn (x := 51) rfl rfl ?_
  refine x_iconst (v := 1) rfl ki_1 ?_
  refine x_iloadn (x := 4) rfl rfl ?_
  refine x_mmax rfl q_8_13 (by decide) rfl (br_t (by decide) ?_)
  refine x_putI 8 0 rfl f_8_19 rfl (jfin_in TX8 RX8 4 rfl rfl rfl rfl) rfl rfl ?_
  refine x_aloadn (x := 51) rfl rfl ?_
  refine x_iconst (v := 0) rfl ki_0 ?_
  refine x_iloadn (x := 100) rfl rfl ?_
  refine x_mmax rfl q_8_13 (by decide) rfl (br_t (by decide) ?_)
  refine x_putI 8 1 rfl f_8_22 rfl (jfin_in TX8 RX8 4 rfl rfl rfl rfl) rfl rfl ?_
  refine x_aloadn (x := 51) rfl rfl ?_
  refine x_aloadn (x := 51) rfl rfl ?_
  refine y_getI (v := 4) 8 0 rfl f_8_19 rfl rfl rfl ?_
  refine x_aloadn (x := 51) rfl rfl ?_
  refine y_getI (v := 100) 8 1 rfl f_8_22 rfl rfl rfl ?_
  refine y_imul (v := 400) rfl (by decide) ?_
  refine y_newa2 (v := 400) 52 100 400 rfl ⟨rfl, by decide, by decide⟩ jac_int (by decide) (by decide) (by decide) rfl ⟨by decide, by decide⟩ ?_
  show jX m_X8_init 1297 1 400 39 [(0, .ref 51), (1, .int 4), (2, .int 100)] [.ref 52, .ref 51] _ 1 400 _
  refine x_putR 8 2 rfl f_8_25 rfl (jfin_in TX8 RX8 4 rfl rfl rfl rfl) rfl rfl ?_
  refine x_vret rfl rfl ?_
  show jX m_X1_init 1298 34 24574 147 [(0, .ref 32)] [.ref 51, .ref 32] _ 20 20560 _
  refine x_putR 1 9 rfl f_1_44 rfl (jfin_in TX1 RX1 20 rfl rfl rfl rfl) rfl rfl ?_
  refine x_aloadn (x := 32) rfl rfl ?_
  refine y_new 53 8 4 rfl v_1_9 rfl ⟨by decide, by decide⟩ ?_
  show jX m_X1_init 1298 34 24574 154 [(0, .ref 32)] [.ref 53, .ref 32] _ 21 20564 _
  refine x_dup rfl rfl ?_
  refine x_iconst (v := 4) rfl ki_4 ?_
  refine x_bipush (v := 40) rfl kb_40 ?_
  refine x_ins (N := m_X8_init) (As := [.int 4, .int 40]) (b := 53) (st := [.ref 53, .ref 32]) (dx9 := 1297) (mc := 1) (ms := 160) (host := "") rfl t_X8_init ⟨Or.inl q_1_11, i_X8_init, rfl, rfl⟩ rfl (by decide) rfl rfl ⟨by decide, by decide⟩ (jC.of rfl k_X8_init rfl ?_)
  show jX m_X8_init 1297 1 160 0 [(0, .ref 53), (1, .int 4), (2, .int 40)] [] _ 0 0 _
  refine x_aloadn (x := 53) rfl rfl ?_
  refine x_obj rfl ⟨q_8_1, jobj_w⟩ (by decide) rfl ?_
  refine x_aloadn (x := 53) rfl rfl ?_
  refine x_iconst (v := 0) rfl ki_0 ?_
  refine x_putI 8 3 rfl f_8_7 rfl (jfin_no TX8 RX8 4 rfl rfl) rfl rfl ?_
  refine x_aloadn (x := 53) rfl rfl ?_
  refine x_iconst (v := 1) rfl ki_1 ?_
  refine x_iloadn (x := 4) rfl rfl ?_
  refine x_mmax rfl q_8_13 (by decide) rfl (br_t (by decide) ?_)
  refine x_putI 8 0 rfl f_8_19 rfl (jfin_in TX8 RX8 4 rfl rfl rfl rfl) rfl rfl ?_
  refine x_aloadn (x := 53) rfl rfl ?_
  refine x_iconst (v := 0) rfl ki_0 ?_
  refine x_iloadn (x := 40) rfl rfl ?_
  refine x_mmax rfl q_8_13 (by decide) rfl (br_t (by decide) ?_)
  refine x_putI 8 1 rfl f_8_22 rfl (jfin_in TX8 RX8 4 rfl rfl rfl rfl) rfl rfl ?_
  refine x_aloadn (x := 53) rfl rfl ?_
  refine x_aloadn (x := 53) rfl rfl ?_
  refine y_getI (v := 4) 8 0 rfl f_8_19 rfl rfl rfl ?_
  refine x_aloadn (x := 53) rfl rfl ?_
  refine y_getI (v := 40) 8 1 rfl f_8_22 rfl rfl rfl ?_
  refine y_imul (v := 160) rfl (by decide) ?_
  refine y_newa2 (v := 160) 54 100 160 rfl ⟨rfl, by decide, by decide⟩ jac_int (by decide) (by decide) (by decide) rfl ⟨by decide, by decide⟩ ?_
  show jX m_X8_init 1297 1 160 39 [(0, .ref 53), (1, .int 4), (2, .int 40)] [.ref 54, .ref 53] _ 1 160 _
  refine x_putR 8 2 rfl f_8_25 rfl (jfin_in TX8 RX8 4 rfl rfl rfl rfl) rfl rfl ?_
  refine x_vret rfl rfl ?_
  show jX m_X1_init 1298 34 24574 161 [(0, .ref 32)] [.ref 53, .ref 32] _ 22 20724 _
  refine x_putR 1 10 rfl f_1_47 rfl (jfin_in TX1 RX1 20 rfl rfl rfl rfl) rfl rfl ?_
  refine x_aloadn (x := 32) rfl rfl ?_
  refine y_new 55 8 4 rfl v_1_9 rfl ⟨by decide, by decide⟩ ?_
  show jX m_X1_init 1298 34 24574 168 [(0, .ref 32)] [.ref 55, .ref 32] _ 23 20728 _
  refine x_dup rfl rfl ?_
  refine x_iconst (v := 5) rfl ki_5 ?_
  refine x_bipush (v := 100) rfl kb_100 ?_
  refine x_ins (N := m_X8_init) (As := [.int 5, .int 100]) (b := 55) (st := [.ref 55, .ref 32]) (dx9 := 1297) (mc := 1) (ms := 500) (host := "") rfl t_X8_init ⟨Or.inl q_1_11, i_X8_init, rfl, rfl⟩ rfl (by decide) rfl rfl ⟨by decide, by decide⟩ (jC.of rfl k_X8_init rfl ?_)
  show jX m_X8_init 1297 1 500 0 [(0, .ref 55), (1, .int 5), (2, .int 100)] [] _ 0 0 _
  refine x_aloadn (x := 55) rfl rfl ?_
  refine x_obj rfl ⟨q_8_1, jobj_w⟩ (by decide) rfl ?_
  refine x_aloadn (x := 55) rfl rfl ?_
  refine x_iconst (v := 0) rfl ki_0 ?_
  refine x_putI 8 3 rfl f_8_7 rfl (jfin_no TX8 RX8 4 rfl rfl) rfl rfl ?_
  refine x_aloadn (x := 55) rfl rfl ?_
  refine x_iconst (v := 1) rfl ki_1 ?_
  refine x_iloadn (x := 5) rfl rfl ?_
  refine x_mmax rfl q_8_13 (by decide) rfl (br_t (by decide) ?_)
  refine x_putI 8 0 rfl f_8_19 rfl (jfin_in TX8 RX8 4 rfl rfl rfl rfl) rfl rfl ?_
  refine x_aloadn (x := 55) rfl rfl ?_
  refine x_iconst (v := 0) rfl ki_0 ?_
  refine x_iloadn (x := 100) rfl rfl ?_
  refine x_mmax rfl q_8_13 (by decide) rfl (br_t (by decide) ?_)
  refine x_putI 8 1 rfl f_8_22 rfl (jfin_in TX8 RX8 4 rfl rfl rfl rfl) rfl rfl ?_
  refine x_aloadn (x := 55) rfl rfl ?_
  refine x_aloadn (x := 55) rfl rfl ?_
  refine y_getI (v := 5) 8 0 rfl f_8_19 rfl rfl rfl ?_
  refine x_aloadn (x := 55) rfl rfl ?_
  refine y_getI (v := 100) 8 1 rfl f_8_22 rfl rfl rfl ?_
  refine y_imul (v := 500) rfl (by decide) ?_
  refine y_newa2 (v := 500) 56 100 500 rfl ⟨rfl, by decide, by decide⟩ jac_int (by decide) (by decide) (by decide) rfl ⟨by decide, by decide⟩ ?_
  show jX m_X8_init 1297 1 500 39 [(0, .ref 55), (1, .int 5), (2, .int 100)] [.ref 56, .ref 55] _ 1 500 _
  refine x_putR 8 2 rfl f_8_25 rfl (jfin_in TX8 RX8 4 rfl rfl rfl rfl) rfl rfl ?_
  refine x_vret rfl rfl ?_
  show jX m_X1_init 1298 34 24574 175 [(0, .ref 32)] [.ref 55, .ref 32] _ 24 21228 _
  refine x_putR 1 11 rfl f_1_50 rfl (jfin_in TX1 RX1 20 rfl rfl rfl rfl) rfl rfl ?_
  refine x_aloadn (x := 32) rfl rfl ?_
  refine y_new 57 8 4 rfl v_1_9 rfl ⟨by decide, by decide⟩ ?_
  show jX m_X1_init 1298 34 24574 182 [(0, .ref 32)] [.ref 57, .ref 32] _ 25 21232 _
  refine x_dup rfl rfl ?_
  refine x_iconst (v := 4) rfl ki_4 ?_
  refine x_bipush (v := 100) rfl kb_100 ?_
  refine x_ins (N := m_X8_init) (As := [.int 4, .int 100]) (b := 57) (st := [.ref 57, .ref 32]) (dx9 := 1297) (mc := 1) (ms := 400) (host := "") rfl t_X8_init ⟨Or.inl q_1_11, i_X8_init, rfl, rfl⟩ rfl (by decide) rfl rfl ⟨by decide, by decide⟩ (jC.of rfl k_X8_init rfl ?_)
  show jX m_X8_init 1297 1 400 0 [(0, .ref 57), (1, .int 4), (2, .int 100)] [] _ 0 0 _
  refine x_aloadn (x := 57) rfl rfl ?_
  refine x_obj rfl ⟨q_8_1, jobj_w⟩ (by decide) rfl ?_
  refine x_aloadn (x := 57) rfl rfl ?_
  refine x_iconst (v := 0) rfl ki_0 ?_
  refine x_putI 8 3 rfl f_8_7 rfl (jfin_no TX8 RX8 4 rfl rfl) rfl rfl ?_
  refine x_aloadn (x := 57) rfl rfl ?_
  refine x_iconst (v := 1) rfl ki_1 ?_
  refine x_iloadn (x := 4) rfl rfl ?_
  refine x_mmax rfl q_8_13 (by decide) rfl (br_t (by decide) ?_)
  refine x_putI 8 0 rfl f_8_19 rfl (jfin_in TX8 RX8 4 rfl rfl rfl rfl) rfl rfl ?_
  refine x_aloadn (x := 57) rfl rfl ?_
  refine x_iconst (v := 0) rfl ki_0 ?_
  refine x_iloadn (x := 100) rfl rfl ?_
  refine x_mmax rfl q_8_13 (by decide) rfl (br_t (by decide) ?_)
  refine x_putI 8 1 rfl f_8_22 rfl (jfin_in TX8 RX8 4 rfl rfl rfl rfl) rfl rfl ?_
  refine x_aloadn (x := 57) rfl rfl ?_
  refine x_aloadn (x := 57) rfl rfl ?_
  refine y_getI (v := 4) 8 0 rfl f_8_19 rfl rfl rfl ?_
  refine x_aloadn (x := 57) rfl rfl ?_
  refine y_getI (v := 100) 8 1 rfl f_8_22 rfl rfl rfl ?_
  refine y_imul (v := 400) rfl (by decide) ?_
  refine y_newa2 (v := 400) 58 100 400 rfl ⟨rfl, by decide, by decide⟩ jac_int (by decide) (by decide) (by decide) rfl ⟨by decide, by decide⟩ ?_
  show jX m_X8_init 1297 1 400 39 [(0, .ref 57), (1, .int 4), (2, .int 100)] [.ref 58, .ref 57] _ 1 400 _
  refine x_putR 8 2 rfl f_8_25 rfl (jfin_in TX8 RX8 4 rfl rfl rfl rfl) rfl rfl ?_
  refine x_vret rfl rfl ?_
  show jX m_X1_init 1298 34 24574 189 [(0, .ref 32)] [.ref 57, .ref 32] _ 26 21632 _
  refine x_putR 1 12 rfl f_1_53 rfl (jfin_in TX1 RX1 20 rfl rfl rfl rfl) rfl rfl ?_
  refine x_aloadn (x := 32) rfl rfl ?_
  refine y_new 59 8 4 rfl v_1_9 rfl ⟨by decide, by decide⟩ ?_
  show jX m_X1_init 1298 34 24574 196 [(0, .ref 32)] [.ref 59, .ref 32] _ 27 21636 _
  refine x_dup rfl rfl ?_
  refine x_iconst (v := 4) rfl ki_4 ?_
  refine x_bipush (v := 40) rfl kb_40 ?_
  refine x_ins (N := m_X8_init) (As := [.int 4, .int 40]) (b := 59) (st := [.ref 59, .ref 32]) (dx9 := 1297) (mc := 1) (ms := 160) (host := "") rfl t_X8_init ⟨Or.inl q_1_11, i_X8_init, rfl, rfl⟩ rfl (by decide) rfl rfl ⟨by decide, by decide⟩ (jC.of rfl k_X8_init rfl ?_)
  show jX m_X8_init 1297 1 160 0 [(0, .ref 59), (1, .int 4), (2, .int 40)] [] _ 0 0 _
  refine x_aloadn (x := 59) rfl rfl ?_
  refine x_obj rfl ⟨q_8_1, jobj_w⟩ (by decide) rfl ?_
  refine x_aloadn (x := 59) rfl rfl ?_
  refine x_iconst (v := 0) rfl ki_0 ?_
  refine x_putI 8 3 rfl f_8_7 rfl (jfin_no TX8 RX8 4 rfl rfl) rfl rfl ?_
  refine x_aloadn (x := 59) rfl rfl ?_
  refine x_iconst (v := 1) rfl ki_1 ?_
  refine x_iloadn (x := 4) rfl rfl ?_
  refine x_mmax rfl q_8_13 (by decide) rfl (br_t (by decide) ?_)
  refine x_putI 8 0 rfl f_8_19 rfl (jfin_in TX8 RX8 4 rfl rfl rfl rfl) rfl rfl ?_
  refine x_aloadn (x := 59) rfl rfl ?_
  refine x_iconst (v := 0) rfl ki_0 ?_
  refine x_iloadn (x := 40) rfl rfl ?_
  refine x_mmax rfl q_8_13 (by decide) rfl (br_t (by decide) ?_)
  refine x_putI 8 1 rfl f_8_22 rfl (jfin_in TX8 RX8 4 rfl rfl rfl rfl) rfl rfl ?_
  refine x_aloadn (x := 59) rfl rfl ?_
  refine x_aloadn (x := 59) rfl rfl ?_
  refine y_getI (v := 4) 8 0 rfl f_8_19 rfl rfl rfl ?_
  refine x_aloadn (x := 59) rfl rfl ?_
  refine y_getI (v := 40) 8 1 rfl f_8_22 rfl rfl rfl ?_
  refine y_imul (v := 160) rfl (by decide) ?_
  refine y_newa2 (v := 160) 60 100 160 rfl ⟨rfl, by decide, by decide⟩ jac_int (by decide) (by decide) (by decide) rfl ⟨by decide, by decide⟩ ?_
  show jX m_X8_init 1297 1 160 39 [(0, .ref 59), (1, .int 4), (2, .int 40)] [.ref 60, .ref 59] _ 1 160 _
  refine x_putR 8 2 rfl f_8_25 rfl (jfin_in TX8 RX8 4 rfl rfl rfl rfl) rfl rfl ?_
  refine x_vret rfl rfl ?_
  show jX m_X1_init 1298 34 24574 203 [(0, .ref 32)] [.ref 59, .ref 32] _ 28 21796 _
  refine x_putR 1 13 rfl f_1_56 rfl (jfin_in TX1 RX1 20 rfl rfl rfl rfl) rfl rfl ?_
  refine x_aloadn (x := 32) rfl rfl ?_
  refine y_new 61 8 4 rfl v_1_9 rfl ⟨by decide, by decide⟩ ?_
  show jX m_X1_init 1298 34 24574 210 [(0, .ref 32)] [.ref 61, .ref 32] _ 29 21800 _
  refine x_dup rfl rfl ?_
  refine x_iconst (v := 4) rfl ki_4 ?_
  refine x_bipush (v := 100) rfl kb_100 ?_
  refine x_ins (N := m_X8_init) (As := [.int 4, .int 100]) (b := 61) (st := [.ref 61, .ref 32]) (dx9 := 1297) (mc := 1) (ms := 400) (host := "") rfl t_X8_init ⟨Or.inl q_1_11, i_X8_init, rfl, rfl⟩ rfl (by decide) rfl rfl ⟨by decide, by decide⟩ (jC.of rfl k_X8_init rfl ?_)
  show jX m_X8_init 1297 1 400 0 [(0, .ref 61), (1, .int 4), (2, .int 100)] [] _ 0 0 _
  refine x_aloadn (x := 61) rfl rfl ?_
  refine x_obj rfl ⟨q_8_1, jobj_w⟩ (by decide) rfl ?_
  refine x_aloadn (x := 61) rfl rfl ?_
  refine x_iconst (v := 0) rfl ki_0 ?_
  refine x_putI 8 3 rfl f_8_7 rfl (jfin_no TX8 RX8 4 rfl rfl) rfl rfl ?_
  refine x_aloadn (x := 61) rfl rfl ?_
  refine x_iconst (v := 1) rfl ki_1 ?_
  refine x_iloadn (x := 4) rfl rfl ?_
  refine x_mmax rfl q_8_13 (by decide) rfl (br_t (by decide) ?_)
  refine x_putI 8 0 rfl f_8_19 rfl (jfin_in TX8 RX8 4 rfl rfl rfl rfl) rfl rfl ?_
  refine x_aloadn (x := 61) rfl rfl ?_
  refine x_iconst (v := 0) rfl ki_0 ?_
  refine x_iloadn (x := 100) rfl rfl ?_
  refine x_mmax rfl q_8_13 (by decide) rfl (br_t (by decide) ?_)
  refine x_putI 8 1 rfl f_8_22 rfl (jfin_in TX8 RX8 4 rfl rfl rfl rfl) rfl rfl ?_
  refine x_aloadn (x := 61) rfl rfl ?_
  refine x_aloadn (x := 61) rfl rfl ?_
  refine y_getI (v := 4) 8 0 rfl f_8_19 rfl rfl rfl ?_
  refine x_aloadn (x := 61) rfl rfl ?_
  refine y_getI (v := 100) 8 1 rfl f_8_22 rfl rfl rfl ?_
  refine y_imul (v := 400) rfl (by decide) ?_
  refine y_newa2 (v := 400) 62 100 400 rfl ⟨rfl, by decide, by decide⟩ jac_int (by decide) (by decide) (by decide) rfl ⟨by decide, by decide⟩ ?_
  show jX m_X8_init 1297 1 400 39 [(0, .ref 61), (1, .int 4), (2, .int 100)] [.ref 62, .ref 61] _ 1 400 _
  refine x_putR 8 2 rfl f_8_25 rfl (jfin_in TX8 RX8 4 rfl rfl rfl rfl) rfl rfl ?_
  refine x_vret rfl rfl ?_
  show jX m_X1_init 1298 34 24574 217 [(0, .ref 32)] [.ref 61, .ref 32] _ 30 22200 _
  refine x_putR 1 14 rfl f_1_59 rfl (jfin_in TX1 RX1 20 rfl rfl rfl rfl) rfl rfl ?_
  refine x_aloadn (x := 32) rfl rfl ?_
  refine y_new 63 8 4 rfl v_1_9 rfl ⟨by decide, by decide⟩ ?_
  show jX m_X1_init 1298 34 24574 224 [(0, .ref 32)] [.ref 63, .ref 32] _ 31 22204 _
  refine x_dup rfl rfl ?_
  refine x_iconst (v := 2) rfl ki_2 ?_
  refine x_sipush (v := 370) rfl ks_370 ?_
  refine x_ins (N := m_X8_init) (As := [.int 2, .int 370]) (b := 63) (st := [.ref 63, .ref 32]) (dx9 := 1297) (mc := 1) (ms := 740) (host := "") rfl t_X8_init ⟨Or.inl q_1_11, i_X8_init, rfl, rfl⟩ rfl (by decide) rfl rfl ⟨by decide, by decide⟩ (jC.of rfl k_X8_init rfl ?_)
  show jX m_X8_init 1297 1 740 0 [(0, .ref 63), (1, .int 2), (2, .int 370)] [] _ 0 0 _
  refine x_aloadn (x := 63) rfl rfl ?_
  refine x_obj rfl ⟨q_8_1, jobj_w⟩ (by decide) rfl ?_
  refine x_aloadn (x := 63) rfl rfl ?_
  refine x_iconst (v := 0) rfl ki_0 ?_
  refine x_putI 8 3 rfl f_8_7 rfl (jfin_no TX8 RX8 4 rfl rfl) rfl rfl ?_
  refine x_aloadn (x := 63) rfl rfl ?_
  refine x_iconst (v := 1) rfl ki_1 ?_
  refine x_iloadn (x := 2) rfl rfl ?_
  refine x_mmax rfl q_8_13 (by decide) rfl (br_t (by decide) ?_)
  refine x_putI 8 0 rfl f_8_19 rfl (jfin_in TX8 RX8 4 rfl rfl rfl rfl) rfl rfl ?_
  refine x_aloadn (x := 63) rfl rfl ?_
  refine x_iconst (v := 0) rfl ki_0 ?_
  refine x_iloadn (x := 370) rfl rfl ?_
  refine x_mmax rfl q_8_13 (by decide) rfl (br_t (by decide) ?_)
  refine x_putI 8 1 rfl f_8_22 rfl (jfin_in TX8 RX8 4 rfl rfl rfl rfl) rfl rfl ?_
  refine x_aloadn (x := 63) rfl rfl ?_
  refine x_aloadn (x := 63) rfl rfl ?_
  refine y_getI (v := 2) 8 0 rfl f_8_19 rfl rfl rfl ?_
  refine x_aloadn (x := 63) rfl rfl ?_
  refine y_getI (v := 370) 8 1 rfl f_8_22 rfl rfl rfl ?_
  refine y_imul (v := 740) rfl (by decide) ?_
  refine y_newa2 (v := 740) 64 100 740 rfl ⟨rfl, by decide, by decide⟩ jac_int (by decide) (by decide) (by decide) rfl ⟨by decide, by decide⟩ ?_
  show jX m_X8_init 1297 1 740 39 [(0, .ref 63), (1, .int 2), (2, .int 370)] [.ref 64, .ref 63] _ 1 740 _
  refine x_putR 8 2 rfl f_8_25 rfl (jfin_in TX8 RX8 4 rfl rfl rfl rfl) rfl rfl ?_
  refine x_vret rfl rfl ?_
  show jX m_X1_init 1298 34 24574 232 [(0, .ref 32)] [.ref 63, .ref 32] _ 32 22944 _
  refine x_putR 1 15 rfl f_1_62 rfl (jfin_in TX1 RX1 20 rfl rfl rfl rfl) rfl rfl ?_
  refine x_aloadn (x := 32) rfl rfl ?_
  refine x_sipush (v := 1600) rfl ks_1600 ?_
  refine y_newa2 (v := 1600) 65 101 1600 rfl ⟨rfl, by decide, by decide⟩ jac_long (by decide) (by decide) (by decide) rfl ⟨by decide, by decide⟩ ?_
  show jX m_X1_init 1298 34 24574 241 [(0, .ref 32)] [.ref 65, .ref 32] _ 33 24544 _
  refine x_putR 1 16 rfl f_1_65 rfl (jfin_in TX1 RX1 20 rfl rfl rfl rfl) rfl rfl ?_
  refine x_aloadn (x := 32) rfl rfl ?_
  refine x_bipush (v := 30) rfl kb_30 ?_
  refine y_anew2 (v := 30) 66 105 30 rfl (by decide) (fun C h => by cases h; exact w_1_69) (by decide) (by decide) (by decide) rfl ⟨by decide, by decide⟩ ?_
  show jX m_X1_init 1298 34 24574 250 [(0, .ref 32)] [.ref 66, .ref 32] _ 34 24574 _
  refine x_putR 1 17 rfl f_1_71 rfl (jfin_in TX1 RX1 20 rfl rfl rfl rfl) rfl rfl ?_
  refine x_aloadn (x := 32) rfl rfl ?_
  refine x_iconst (v := 0) rfl ki_0 ?_
  refine x_putI 1 18 rfl f_1_75 rfl (jfin_no TX1 RX1 20 rfl rfl) rfl rfl ?_
  refine x_aloadn (x := 32) rfl rfl ?_
  refine x_iconst (v := 1) rfl ki_1 ?_
  refine x_putI 1 19 rfl f_1_79 rfl (jfin_no TX1 RX1 20 rfl rfl) rfl rfl ?_
  refine x_vret rfl rfl ?_
  show jX m_X11_init 1299 93 92549 12 [(0, .ref 31)] [.ref 32, .ref 31] _ 35 24594 _
  refine x_putR 11 0 rfl f_11_10 rfl (jfin_in TX11 RX11 13 rfl rfl rfl rfl) rfl rfl ?_
  refine x_aloadn (x := 31) rfl rfl ?_
  refine x_iconst (v := 4) rfl ki_4 ?_
  refine y_anew2 (v := 4) 67 104 4 rfl (by decide) (fun C h => by cases h; exact w_11_7) (by decide) (by decide) (by decide) rfl ⟨by decide, by decide⟩ ?_
  show jX m_X11_init 1299 93 92549 20 [(0, .ref 31)] [.ref 67, .ref 31] _ 36 24598 _
  refine x_putR 11 1 rfl f_11_16 rfl (jfin_in TX11 RX11 13 rfl rfl rfl rfl) rfl rfl ?_
  refine x_aloadn (x := 31) rfl rfl ?_
  refine y_new 68 9 6 rfl v_11_20 rfl ⟨by decide, by decide⟩ ?_
  show jX m_X11_init 1299 93 92549 27 [(0, .ref 31)] [.ref 68, .ref 31] _ 37 24604 _
  refine x_dup rfl rfl ?_
  refine x_ins (N := m_X9_init) (As := []) (b := 68) (st := [.ref 68, .ref 31]) (dx9 := 1298) (mc := 1) (ms := 400) (host := "ParishChest") rfl t_X9_init ⟨Or.inr q_11_22, i_X9_init, rfl, rfl⟩ rfl (by decide) rfl rfl ⟨by decide, by decide⟩ (jC.of rfl k_X9_init rfl ?_)
  show jX m_X9_init 1298 1 400 0 [(0, .ref 68)] [] _ 0 0 _
  refine x_aloadn (x := 68) rfl rfl ?_
  refine x_obj rfl ⟨q_9_3, jobj_w⟩ (by decide) rfl ?_
  refine x_aloadn (x := 68) rfl rfl ?_
  refine x_sipush (v := 400) rfl ks_400 ?_
  refine y_newa2 (v := 400) 69 100 400 rfl ⟨rfl, by decide, by decide⟩ jac_int (by decide) (by decide) (by decide) rfl ⟨by decide, by decide⟩ ?_
  show jX m_X9_init 1298 1 400 10 [(0, .ref 68)] [.ref 69, .ref 68] _ 1 400 _
  refine x_putR 9 0 rfl f_9_11 rfl (jfin_in TX9 RX9 6 rfl rfl rfl rfl) rfl rfl ?_
  refine x_aloadn (x := 68) rfl rfl ?_
  refine x_iconst (v := 0) rfl ki_0 ?_
  refine x_putI 9 1 rfl f_9_15 rfl (jfin_no TX9 RX9 6 rfl rfl) rfl rfl ?_
  refine x_aloadn (x := 68) rfl rfl ?_
  refine x_iconst (v := (-1)) rfl ki_m1 ?_
  refine x_putI 9 2 rfl f_9_19 rfl (jfin_no TX9 RX9 6 rfl rfl) rfl rfl ?_
  refine x_aloadn (x := 68) rfl rfl ?_
  refine x_iconst (v := 0) rfl ki_0 ?_
  refine x_putI 9 3 rfl f_9_22 rfl (jfin_no TX9 RX9 6 rfl rfl) rfl rfl ?_
  refine x_aloadn (x := 68) rfl rfl ?_
  refine x_iconst (v := 0) rfl ki_0 ?_
  refine x_putI 9 4 rfl f_9_25 rfl (jfin_no TX9 RX9 6 rfl rfl) rfl rfl ?_
  refine x_aloadn (x := 68) rfl rfl ?_
  refine x_iconst (v := 0) rfl ki_0 ?_
  refine x_putI 9 5 rfl f_9_28 rfl (jfin_no TX9 RX9 6 rfl rfl) rfl rfl ?_
  refine x_vret rfl rfl ?_
  show jX m_X11_init 1299 93 92549 31 [(0, .ref 31)] [.ref 68, .ref 31] _ 38 25004 _
  refine x_putR 11 2 rfl f_11_23 rfl (jfin_in TX11 RX11 13 rfl rfl rfl rfl) rfl rfl ?_
  refine x_aloadn (x := 31) rfl rfl ?_
  refine y_new 70 5 9 rfl v_11_27 rfl ⟨by decide, by decide⟩ ?_
  show jX m_X11_init 1299 93 92549 38 [(0, .ref 31)] [.ref 70, .ref 31] _ 39 25013 _
  refine x_dup rfl rfl ?_
  refine x_aloadn (x := 31) rfl rfl ?_
  refine x_getR (b := 32) 11 0 rfl f_11_10 rfl rfl rfl ?_
  refine x_aloadn (x := 31) rfl rfl ?_
  refine x_getR (b := 68) 11 2 rfl f_11_23 rfl rfl rfl ?_
  refine x_ins (N := m_X5_init) (As := [.ref 32, .ref 68]) (b := 70) (st := [.ref 70, .ref 31]) (dx9 := 1298) (mc := 7) (ms := 46788) (host := "") rfl t_X5_init ⟨Or.inl q_11_29, i_X5_init, rfl, rfl⟩ rfl (by decide) rfl rfl ⟨by decide, by decide⟩ (jC.of rfl k_X5_init rfl ?_)
  show jX m_X5_init 1298 7 46788 0 [(0, .ref 70), (1, .ref 32), (2, .ref 68)] [] _ 0 0 _
  refine x_aloadn (x := 70) rfl rfl ?_
  refine x_obj rfl ⟨q_5_3, jobj_w⟩ (by decide) rfl ?_
  refine x_aloadn (x := 70) rfl rfl ?_
  refine x_bipush (v := 84) rfl kb_84 ?_
  refine y_newa2 (v := 84) 71 100 84 rfl ⟨rfl, by decide, by decide⟩ jac_int (by decide) (by decide) (by decide) rfl ⟨by decide, by decide⟩ ?_
  show jX m_X5_init 1298 7 46788 9 [(0, .ref 70), (1, .ref 32), (2, .ref 68)] [.ref 71, .ref 70] _ 1 84 _
  refine x_putR 5 2 rfl f_5_9 rfl (jfin_in TX5 RX5 9 rfl rfl rfl rfl) rfl rfl ?_
  refine x_aloadn (x := 70) rfl rfl ?_
  refine x_bipush (v := 64) rfl kb_64 ?_
  refine y_newa2 (v := 64) 72 100 64 rfl ⟨rfl, by decide, by decide⟩ jac_int (by decide) (by decide) (by decide) rfl ⟨by decide, by decide⟩ ?_
  show jX m_X5_init 1298 7 46788 17 [(0, .ref 70), (1, .ref 32), (2, .ref 68)] [.ref 72, .ref 70] _ 2 148 _
  refine x_putR 5 3 rfl f_5_15 rfl (jfin_in TX5 RX5 9 rfl rfl rfl rfl) rfl rfl ?_
  refine x_aloadn (x := 70) rfl rfl ?_
  refine x_sipush (v := 1024) rfl ks_1024 ?_
  refine y_newa2 (v := 1024) 73 100 1024 rfl ⟨rfl, by decide, by decide⟩ jac_int (by decide) (by decide) (by decide) rfl ⟨by decide, by decide⟩ ?_
  show jX m_X5_init 1298 7 46788 26 [(0, .ref 70), (1, .ref 32), (2, .ref 68)] [.ref 73, .ref 70] _ 3 1172 _
  refine x_putR 5 4 rfl f_5_18 rfl (jfin_in TX5 RX5 9 rfl rfl rfl rfl) rfl rfl ?_
  refine x_aloadn (x := 70) rfl rfl ?_
  refine x_bipush (v := 16) rfl kb_16 ?_
  refine y_newa2 (v := 16) 74 100 16 rfl ⟨rfl, by decide, by decide⟩ jac_int (by decide) (by decide) (by decide) rfl ⟨by decide, by decide⟩ ?_
  show jX m_X5_init 1298 7 46788 34 [(0, .ref 70), (1, .ref 32), (2, .ref 68)] [.ref 74, .ref 70] _ 4 1188 _
  refine x_putR 5 5 rfl f_5_21 rfl (jfin_in TX5 RX5 9 rfl rfl rfl rfl) rfl rfl ?_
  refine x_aloadn (x := 70) rfl rfl ?_
  refine x_ldc (v := 43200) rfl z_5_24 ?_
  refine y_newa2 (v := 43200) 75 100 43200 rfl ⟨rfl, by decide, by decide⟩ jac_int (by decide) (by decide) (by decide) rfl ⟨by decide, by decide⟩ ?_
  show jX m_X5_init 1298 7 46788 42 [(0, .ref 70), (1, .ref 32), (2, .ref 68)] [.ref 75, .ref 70] _ 5 44388 _
  refine x_putR 5 6 rfl f_5_25 rfl (jfin_in TX5 RX5 9 rfl rfl rfl rfl) rfl rfl ?_
  refine x_aloadn (x := 70) rfl rfl ?_
  refine x_sipush (v := 1200) rfl ks_1200 ?_
  refine y_newa2 (v := 1200) 76 100 1200 rfl ⟨rfl, by decide, by decide⟩ jac_int (by decide) (by decide) (by decide) rfl ⟨by decide, by decide⟩ ?_
  show jX m_X5_init 1298 7 46788 51 [(0, .ref 70), (1, .ref 32), (2, .ref 68)] [.ref 76, .ref 70] _ 6 45588 _
  refine x_putR 5 7 rfl f_5_28 rfl (jfin_in TX5 RX5 9 rfl rfl rfl rfl) rfl rfl ?_
  refine x_aloadn (x := 70) rfl rfl ?_
  refine x_sipush (v := 1200) rfl ks_1200 ?_
  refine y_newa2 (v := 1200) 77 102 1200 rfl ⟨rfl, by decide, by decide⟩ jac_boolean (by decide) (by decide) (by decide) rfl ⟨by decide, by decide⟩ ?_
  show jX m_X5_init 1298 7 46788 60 [(0, .ref 70), (1, .ref 32), (2, .ref 68)] [.ref 77, .ref 70] _ 7 46788 _
  refine x_putR 5 8 rfl f_5_31 rfl (jfin_in TX5 RX5 9 rfl rfl rfl rfl) rfl rfl ?_
  refine x_aloadn (x := 70) rfl rfl ?_
  refine x_aloadn (x := 32) rfl rfl ?_
  refine x_putR 5 0 rfl f_5_35 rfl (jfin_in TX5 RX5 9 rfl rfl rfl rfl) rfl rfl ?_
  refine x_aloadn (x := 70) rfl rfl ?_
  refine x_aloadn (x := 68) rfl rfl ?_
  refine x_putR 5 1 rfl f_5_39 rfl (jfin_in TX5 RX5 9 rfl rfl rfl rfl) rfl rfl ?_
  refine x_vret rfl rfl ?_
  show jX m_X11_init 1299 93 92549 50 [(0, .ref 31)] [.ref 70, .ref 31] _ 46 71801 _
  refine x_putR 11 3 rfl f_11_32 rfl (jfin_in TX11 RX11 13 rfl rfl rfl rfl) rfl rfl ?_
  refine x_aloadn (x := 31) rfl rfl ?_
  refine y_new 78 7 16 rfl v_11_36 rfl ⟨by decide, by decide⟩ ?_
  show jX m_X11_init 1299 93 92549 57 [(0, .ref 31)] [.ref 78, .ref 31] _ 47 71817 _
  refine x_dup rfl rfl ?_
  refine x_aloadn (x := 31) rfl rfl ?_
  refine x_getR (b := 32) 11 0 rfl f_11_10 rfl rfl rfl ?_
  refine x_aloadn (x := 31) rfl rfl ?_
  refine x_getR (b := 70) 11 3 rfl f_11_32 rfl rfl rfl ?_
  refine x_ins (N := m_X7_init) (As := [.ref 32, .ref 70]) (b := 78) (st := [.ref 78, .ref 31]) (dx9 := 1298) (mc := 8) (ms := 3207) (host := "") rfl t_X7_init ⟨Or.inl q_11_38, i_X7_init, rfl, rfl⟩ rfl (by decide) rfl rfl ⟨by decide, by decide⟩ (jC.of rfl k_X7_init rfl ?_)
  show jX m_X7_init 1298 8 3207 0 [(0, .ref 78), (1, .ref 32), (2, .ref 70)] [] _ 0 0 _
  refine x_aloadn (x := 78) rfl rfl ?_
  refine x_obj rfl ⟨q_7_3, jobj_w⟩ (by decide) rfl ?_
  refine x_aloadn (x := 78) rfl rfl ?_
  refine x_bipush (v := 10) rfl kb_10 ?_
  refine x_putI 7 2 rfl f_7_9 rfl (jfin_no TX7 RX7 16 rfl rfl) rfl rfl ?_
  refine x_aloadn (x := 78) rfl rfl ?_
  refine x_bipush (v := 10) rfl kb_10 ?_
  refine x_putI 7 3 rfl f_7_15 rfl (jfin_no TX7 RX7 16 rfl rfl) rfl rfl ?_
  refine x_aloadn (x := 78) rfl rfl ?_
  refine x_iconst (v := 5) rfl ki_5 ?_
  refine x_putI 7 4 rfl f_7_18 rfl (jfin_no TX7 RX7 16 rfl rfl) rfl rfl ?_
  refine x_aloadn (x := 78) rfl rfl ?_
  refine x_bipush (v := 20) rfl kb_20 ?_
  refine x_putI 7 5 rfl f_7_21 rfl (jfin_no TX7 RX7 16 rfl rfl) rfl rfl ?_
  refine x_aloadn (x := 78) rfl rfl ?_
  refine x_iconst (v := 2) rfl ki_2 ?_
  refine x_putI 7 6 rfl f_7_24 rfl (jfin_no TX7 RX7 16 rfl rfl) rfl rfl ?_
  refine x_aloadn (x := 78) rfl rfl ?_
  refine x_sipush (v := 600) rfl ks_600 ?_
  refine y_newa2 (v := 600) 79 100 600 rfl ⟨rfl, by decide, by decide⟩ jac_int (by decide) (by decide) (by decide) rfl ⟨by decide, by decide⟩ ?_
  show jX m_X7_init 1298 8 3207 38 [(0, .ref 78), (1, .ref 32), (2, .ref 70)] [.ref 79, .ref 78] _ 1 600 _
  refine x_putR 7 7 rfl f_7_27 rfl (jfin_in TX7 RX7 16 rfl rfl rfl rfl) rfl rfl ?_
  refine x_aloadn (x := 78) rfl rfl ?_
  refine x_sipush (v := 600) rfl ks_600 ?_
  refine y_newa2 (v := 600) 80 100 600 rfl ⟨rfl, by decide, by decide⟩ jac_int (by decide) (by decide) (by decide) rfl ⟨by decide, by decide⟩ ?_
  show jX m_X7_init 1298 8 3207 47 [(0, .ref 78), (1, .ref 32), (2, .ref 70)] [.ref 80, .ref 78] _ 2 1200 _
  refine x_putR 7 8 rfl f_7_31 rfl (jfin_in TX7 RX7 16 rfl rfl rfl rfl) rfl rfl ?_
  refine x_aloadn (x := 78) rfl rfl ?_
  refine x_sipush (v := 600) rfl ks_600 ?_
  refine y_newa2 (v := 600) 81 100 600 rfl ⟨rfl, by decide, by decide⟩ jac_int (by decide) (by decide) (by decide) rfl ⟨by decide, by decide⟩ ?_
  show jX m_X7_init 1298 8 3207 56 [(0, .ref 78), (1, .ref 32), (2, .ref 70)] [.ref 81, .ref 78] _ 3 1800 _
  refine x_putR 7 9 rfl f_7_34 rfl (jfin_in TX7 RX7 16 rfl rfl rfl rfl) rfl rfl ?_
  refine x_aloadn (x := 78) rfl rfl ?_
  refine x_sipush (v := 600) rfl ks_600 ?_
  refine y_newa2 (v := 600) 82 100 600 rfl ⟨rfl, by decide, by decide⟩ jac_int (by decide) (by decide) (by decide) rfl ⟨by decide, by decide⟩ ?_
  show jX m_X7_init 1298 8 3207 65 [(0, .ref 78), (1, .ref 32), (2, .ref 70)] [.ref 82, .ref 78] _ 4 2400 _
  refine x_putR 7 10 rfl f_7_37 rfl (jfin_in TX7 RX7 16 rfl rfl rfl rfl) rfl rfl ?_
  refine x_aloadn (x := 78) rfl rfl ?_
  refine x_sipush (v := 600) rfl ks_600 ?_
  refine y_newa2 (v := 600) 83 100 600 rfl ⟨rfl, by decide, by decide⟩ jac_int (by decide) (by decide) (by decide) rfl ⟨by decide, by decide⟩ ?_
  show jX m_X7_init 1298 8 3207 74 [(0, .ref 78), (1, .ref 32), (2, .ref 70)] [.ref 83, .ref 78] _ 5 3000 _
  refine x_putR 7 11 rfl f_7_40 rfl (jfin_in TX7 RX7 16 rfl rfl rfl rfl) rfl rfl ?_
  refine x_aloadn (x := 78) rfl rfl ?_
  refine x_sipush (v := 200) rfl ks_200 ?_
  refine y_newa2 (v := 200) 84 100 200 rfl ⟨rfl, by decide, by decide⟩ jac_int (by decide) (by decide) (by decide) rfl ⟨by decide, by decide⟩ ?_
  show jX m_X7_init 1298 8 3207 83 [(0, .ref 78), (1, .ref 32), (2, .ref 70)] [.ref 84, .ref 78] _ 6 3200 _
  refine x_putR 7 12 rfl f_7_43 rfl (jfin_in TX7 RX7 16 rfl rfl rfl rfl) rfl rfl ?_
  refine x_aloadn (x := 78) rfl rfl ?_
  refine x_iconst (v := 0) rfl ki_0 ?_
  refine x_putI 7 13 rfl f_7_46 rfl (jfin_no TX7 RX7 16 rfl rfl) rfl rfl ?_
  refine x_aloadn (x := 78) rfl rfl ?_
  refine x_iconst (v := 4) rfl ki_4 ?_
  refine y_newa2 (v := 4) 85 100 4 rfl ⟨rfl, by decide, by decide⟩ jac_int (by decide) (by decide) (by decide) rfl ⟨by decide, by decide⟩ ?_
  show jX m_X7_init 1298 8 3207 95 [(0, .ref 78), (1, .ref 32), (2, .ref 70)] [.ref 85, .ref 78] _ 7 3204 _
  refine x_putR 7 14 rfl f_7_49 rfl (jfin_in TX7 RX7 16 rfl rfl rfl rfl) rfl rfl ?_
  refine x_aloadn (x := 78) rfl rfl ?_
  refine x_iconst (v := 3) rfl ki_3 ?_
  refine y_newa2 (v := 3) 86 100 3 rfl ⟨rfl, by decide, by decide⟩ jac_int (by decide) (by decide) (by decide) rfl ⟨by decide, by decide⟩ ?_
  show jX m_X7_init 1298 8 3207 102 [(0, .ref 78), (1, .ref 32), (2, .ref 70)] [.ref 86, .ref 78] _ 8 3207 _
  refine x_putR 7 15 rfl f_7_52 rfl (jfin_in TX7 RX7 16 rfl rfl rfl rfl) rfl rfl ?_
  refine x_aloadn (x := 78) rfl rfl ?_
  refine x_aloadn (x := 32) rfl rfl ?_
  refine x_putR 7 0 rfl f_7_55 rfl (jfin_in TX7 RX7 16 rfl rfl rfl rfl) rfl rfl ?_
  refine x_aloadn (x := 78) rfl rfl ?_
  refine x_aloadn (x := 70) rfl rfl ?_
  refine x_putR 7 1 rfl f_7_59 rfl (jfin_in TX7 RX7 16 rfl rfl rfl rfl) rfl rfl ?_
  refine x_vret rfl rfl ?_
  show jX m_X11_init 1299 93 92549 69 [(0, .ref 31)] [.ref 78, .ref 31] _ 55 75024 _
  refine x_putR 11 4 rfl f_11_41 rfl (jfin_in TX11 RX11 13 rfl rfl rfl rfl) rfl rfl ?_
  refine x_aloadn (x := 31) rfl rfl ?_
  refine y_new 87 3 14 rfl v_11_45 rfl ⟨by decide, by decide⟩ ?_
  show jX m_X11_init 1299 93 92549 76 [(0, .ref 31)] [.ref 87, .ref 31] _ 56 75038 _
  refine x_dup rfl rfl ?_
  refine x_aloadn (x := 31) rfl rfl ?_
  refine x_getR (b := 32) 11 0 rfl f_11_10 rfl rfl rfl ?_
  refine x_aloadn (x := 31) rfl rfl ?_
  refine x_getR (b := 78) 11 4 rfl f_11_41 rfl rfl rfl ?_
  refine x_ins (N := m_X3_init) (As := [.ref 32, .ref 78]) (b := 87) (st := [.ref 87, .ref 31]) (dx9 := 1298) (mc := 7) (ms := 14608) (host := "") rfl t_X3_init ⟨Or.inl q_11_47, i_X3_init, rfl, rfl⟩ rfl (by decide) rfl rfl ⟨by decide, by decide⟩ (jC.of rfl k_X3_init rfl ?_)
  show jX m_X3_init 1298 7 14608 0 [(0, .ref 87), (1, .ref 32), (2, .ref 78)] [] _ 0 0 _
  refine x_aloadn (x := 87) rfl rfl ?_
  refine x_obj rfl ⟨q_3_3, jobj_w⟩ (by decide) rfl ?_
  refine x_aloadn (x := 87) rfl rfl ?_
  refine x_bipush (v := 9) rfl kb_9 ?_
  refine y_newa2 (v := 9) 88 100 9 rfl ⟨rfl, by decide, by decide⟩ jac_int (by decide) (by decide) (by decide) rfl ⟨by decide, by decide⟩ ?_
  show jX m_X3_init 1298 7 14608 9 [(0, .ref 87), (1, .ref 32), (2, .ref 78)] [.ref 88, .ref 87] _ 1 9 _
  refine x_putR 3 2 rfl f_3_9 rfl (jfin_in TX3 RX3 14 rfl rfl rfl rfl) rfl rfl ?_
  refine x_aloadn (x := 87) rfl rfl ?_
  refine x_iconst (v := 0) rfl ki_0 ?_
  refine x_putI 3 3 rfl f_3_15 rfl (jfin_no TX3 RX3 14 rfl rfl) rfl rfl ?_
  refine x_aloadn (x := 87) rfl rfl ?_
  refine x_bipush (v := 81) rfl kb_81 ?_
  refine y_newa2 (v := 81) 89 100 81 rfl ⟨rfl, by decide, by decide⟩ jac_int (by decide) (by decide) (by decide) rfl ⟨by decide, by decide⟩ ?_
  show jX m_X3_init 1298 7 14608 22 [(0, .ref 87), (1, .ref 32), (2, .ref 78)] [.ref 89, .ref 87] _ 2 90 _
  refine x_putR 3 4 rfl f_3_19 rfl (jfin_in TX3 RX3 14 rfl rfl rfl rfl) rfl rfl ?_
  refine x_aloadn (x := 87) rfl rfl ?_
  refine x_bipush (v := 9) rfl kb_9 ?_
  refine y_newa2 (v := 9) 90 100 9 rfl ⟨rfl, by decide, by decide⟩ jac_int (by decide) (by decide) (by decide) rfl ⟨by decide, by decide⟩ ?_
  show jX m_X3_init 1298 7 14608 30 [(0, .ref 87), (1, .ref 32), (2, .ref 78)] [.ref 90, .ref 87] _ 3 99 _
  refine x_putR 3 5 rfl f_3_22 rfl (jfin_in TX3 RX3 14 rfl rfl rfl rfl) rfl rfl ?_
  refine x_aloadn (x := 87) rfl rfl ?_
  refine x_bipush (v := 9) rfl kb_9 ?_
  refine y_newa2 (v := 9) 91 100 9 rfl ⟨rfl, by decide, by decide⟩ jac_int (by decide) (by decide) (by decide) rfl ⟨by decide, by decide⟩ ?_
  show jX m_X3_init 1298 7 14608 38 [(0, .ref 87), (1, .ref 32), (2, .ref 78)] [.ref 91, .ref 87] _ 4 108 _
  refine x_putR 3 6 rfl f_3_25 rfl (jfin_in TX3 RX3 14 rfl rfl rfl rfl) rfl rfl ?_
  refine x_aloadn (x := 87) rfl rfl ?_
  refine x_bipush (v := 9) rfl kb_9 ?_
  refine y_newa2 (v := 9) 92 100 9 rfl ⟨rfl, by decide, by decide⟩ jac_int (by decide) (by decide) (by decide) rfl ⟨by decide, by decide⟩ ?_
  show jX m_X3_init 1298 7 14608 46 [(0, .ref 87), (1, .ref 32), (2, .ref 78)] [.ref 92, .ref 87] _ 5 117 _
  refine x_putR 3 7 rfl f_3_28 rfl (jfin_in TX3 RX3 14 rfl rfl rfl rfl) rfl rfl ?_
  refine x_aloadn (x := 87) rfl rfl ?_
  refine x_bipush (v := 90) rfl kb_90 ?_
  refine y_newa2 (v := 90) 93 100 90 rfl ⟨rfl, by decide, by decide⟩ jac_int (by decide) (by decide) (by decide) rfl ⟨by decide, by decide⟩ ?_
  show jX m_X3_init 1298 7 14608 54 [(0, .ref 87), (1, .ref 32), (2, .ref 78)] [.ref 93, .ref 87] _ 6 207 _
  refine x_putR 3 8 rfl f_3_31 rfl (jfin_in TX3 RX3 14 rfl rfl rfl rfl) rfl rfl ?_
  refine x_aloadn (x := 87) rfl rfl ?_
  refine x_sipush (v := 14401) rfl ks_14401 ?_
  refine y_newa2 (v := 14401) 94 100 14401 rfl ⟨rfl, by decide, by decide⟩ jac_int (by decide) (by decide) (by decide) rfl ⟨by decide, by decide⟩ ?_
  show jX m_X3_init 1298 7 14608 63 [(0, .ref 87), (1, .ref 32), (2, .ref 78)] [.ref 94, .ref 87] _ 7 14608 _
  refine x_putR 3 9 rfl f_3_34 rfl (jfin_in TX3 RX3 14 rfl rfl rfl rfl) rfl rfl ?_
  refine x_aloadn (x := 87) rfl rfl ?_
  refine x_iconst (v := 0) rfl ki_0 ?_
  refine x_putI 3 10 rfl f_3_37 rfl (jfin_no TX3 RX3 14 rfl rfl) rfl rfl ?_
  refine x_aloadn (x := 87) rfl rfl ?_
  refine x_iconst (v := 0) rfl ki_0 ?_
  refine x_putI 3 11 rfl f_3_40 rfl (jfin_no TX3 RX3 14 rfl rfl) rfl rfl ?_
  refine x_aloadn (x := 87) rfl rfl ?_
  refine x_iconst (v := 0) rfl ki_0 ?_
  refine x_putI 3 12 rfl f_3_43 rfl (jfin_no TX3 RX3 14 rfl rfl) rfl rfl ?_
  refine x_aloadn (x := 87) rfl rfl ?_
  refine x_iconst (v := 0) rfl ki_0 ?_
  refine x_putI 3 13 rfl f_3_46 rfl (jfin_no TX3 RX3 14 rfl rfl) rfl rfl ?_
  refine x_aloadn (x := 87) rfl rfl ?_
  refine x_aloadn (x := 32) rfl rfl ?_
  refine x_putR 3 0 rfl f_3_49 rfl (jfin_in TX3 RX3 14 rfl rfl rfl rfl) rfl rfl ?_
  refine x_aloadn (x := 87) rfl rfl ?_
  refine x_aloadn (x := 78) rfl rfl ?_
  refine x_putR 3 1 rfl f_3_53 rfl (jfin_in TX3 RX3 14 rfl rfl rfl rfl) rfl rfl ?_
  refine x_vret rfl rfl ?_
  show jX m_X11_init 1299 93 92549 88 [(0, .ref 31)] [.ref 87, .ref 31] _ 63 89646 _
  refine x_putR 11 5 rfl f_11_50 rfl (jfin_in TX11 RX11 13 rfl rfl rfl rfl) rfl rfl ?_
  refine x_aloadn (x := 31) rfl rfl ?_
  refine y_new 95 2 6 rfl v_11_54 rfl ⟨by decide, by decide⟩ ?_
  show jX m_X11_init 1299 93 92549 95 [(0, .ref 31)] [.ref 95, .ref 31] _ 64 89652 _
  refine x_dup rfl rfl ?_
  refine x_aloadn (x := 31) rfl rfl ?_
  refine x_getR (b := 68) 11 2 rfl f_11_23 rfl rfl rfl ?_
  refine x_ins (N := m_X2_init) (As := [.ref 68]) (b := 95) (st := [.ref 95, .ref 31]) (dx9 := 1298) (mc := 2) (ms := 1272) (host := "") rfl t_X2_init ⟨Or.inl q_11_56, i_X2_init, rfl, rfl⟩ rfl (by decide) rfl rfl ⟨by decide, by decide⟩ (jC.of rfl k_X2_init rfl ?_)
  show jX m_X2_init 1298 2 1272 0 [(0, .ref 95), (1, .ref 68)] [] _ 0 0 _
  refine x_aloadn (x := 95) rfl rfl ?_
  refine x_obj rfl ⟨q_2_3, jobj_w⟩ (by decide) rfl ?_
  refine x_aloadn (x := 95) rfl rfl ?_
  refine x_bipush (v := 72) rfl kb_72 ?_
  refine y_newa2 (v := 72) 96 100 72 rfl ⟨rfl, by decide, by decide⟩ jac_int (by decide) (by decide) (by decide) rfl ⟨by decide, by decide⟩ ?_
  show jX m_X2_init 1298 2 1272 9 [(0, .ref 95), (1, .ref 68)] [.ref 96, .ref 95] _ 1 72 _
  refine x_putR 2 1 rfl f_2_11 rfl (jfin_in TX2 RX2 6 rfl rfl rfl rfl) rfl rfl ?_
  refine x_aloadn (x := 95) rfl rfl ?_
  refine x_sipush (v := 1200) rfl ks_1200 ?_
  refine y_newa2 (v := 1200) 97 100 1200 rfl ⟨rfl, by decide, by decide⟩ jac_int (by decide) (by decide) (by decide) rfl ⟨by decide, by decide⟩ ?_
  show jX m_X2_init 1298 2 1272 18 [(0, .ref 95), (1, .ref 68)] [.ref 97, .ref 95] _ 2 1272 _
  refine x_putR 2 2 rfl f_2_17 rfl (jfin_in TX2 RX2 6 rfl rfl rfl rfl) rfl rfl ?_
  refine x_aloadn (x := 95) rfl rfl ?_
  refine x_iconst (v := 0) rfl ki_0 ?_
  refine x_putI 2 3 rfl f_2_20 rfl (jfin_no TX2 RX2 6 rfl rfl) rfl rfl ?_
  refine x_aloadn (x := 95) rfl rfl ?_
  refine x_iconst (v := 0) rfl ki_0 ?_
  refine x_putI 2 4 rfl f_2_24 rfl (jfin_no TX2 RX2 6 rfl rfl) rfl rfl ?_
  refine x_aloadn (x := 95) rfl rfl ?_
  refine x_iconst (v := 0) rfl ki_0 ?_
  refine x_putI 2 5 rfl f_2_27 rfl (jfin_no TX2 RX2 6 rfl rfl) rfl rfl ?_
  refine x_aloadn (x := 95) rfl rfl ?_
  refine x_aloadn (x := 68) rfl rfl ?_
  refine x_putR 2 0 rfl f_2_30 rfl (jfin_in TX2 RX2 6 rfl rfl rfl rfl) rfl rfl ?_
  refine x_vret rfl rfl ?_
  show jX m_X11_init 1299 93 92549 103 [(0, .ref 31)] [.ref 95, .ref 31] _ 66 90924 _
  refine x_putR 11 6 rfl f_11_59 rfl (jfin_in TX11 RX11 13 rfl rfl rfl rfl) rfl rfl ?_
  refine x_aloadn (x := 31) rfl rfl ?_
  refine y_new 98 0 16 rfl v_11_63 rfl ⟨by decide, by decide⟩ ?_
  show jX m_X11_init 1299 93 92549 110 [(0, .ref 31)] [.ref 98, .ref 31] _ 67 90940 _
  refine x_dup rfl rfl ?_
  refine x_aloadn (x := 31) rfl rfl ?_
  refine x_getR (b := 32) 11 0 rfl f_11_10 rfl rfl rfl ?_
  refine x_aloadn (x := 31) rfl rfl ?_
  refine x_getR (b := 78) 11 4 rfl f_11_41 rfl rfl rfl ?_
  refine x_ins (N := m_X0_init) (As := [.ref 32, .ref 78]) (b := 98) (st := [.ref 98, .ref 31]) (dx9 := 1298) (mc := 8) (ms := 286) (host := "") rfl t_X0_init ⟨Or.inl q_11_65, i_X0_init, rfl, rfl⟩ rfl (by decide) rfl rfl ⟨by decide, by decide⟩ (jC.of rfl k_X0_init rfl ?_)
  show jX m_X0_init 1298 8 286 0 [(0, .ref 98), (1, .ref 32), (2, .ref 78)] [] _ 0 0 _
  refine x_aloadn (x := 98) rfl rfl ?_
  refine x_obj rfl ⟨q_0_3, jobj_w⟩ (by decide) rfl ?_
  refine x_aloadn (x := 98) rfl rfl ?_
  refine x_bipush (v := 30) rfl kb_30 ?_
  refine y_newa2 (v := 30) 99 100 30 rfl ⟨rfl, by decide, by decide⟩ jac_int (by decide) (by decide) (by decide) rfl ⟨by decide, by decide⟩ ?_
  show jX m_X0_init 1298 8 286 9 [(0, .ref 98), (1, .ref 32), (2, .ref 78)] [.ref 99, .ref 98] _ 1 30 _
  refine x_putR 0 2 rfl f_0_9 rfl (jfin_in TX0 RX0 16 rfl rfl rfl rfl) rfl rfl ?_
  refine x_aloadn (x := 98) rfl rfl ?_
  refine x_bipush (v := 30) rfl kb_30 ?_
  refine y_newa2 (v := 30) 100 100 30 rfl ⟨rfl, by decide, by decide⟩ jac_int (by decide) (by decide) (by decide) rfl ⟨by decide, by decide⟩ ?_
  show jX m_X0_init 1298 8 286 17 [(0, .ref 98), (1, .ref 32), (2, .ref 78)] [.ref 100, .ref 98] _ 2 60 _
  refine x_putR 0 3 rfl f_0_15 rfl (jfin_in TX0 RX0 16 rfl rfl rfl rfl) rfl rfl ?_
  refine x_aloadn (x := 98) rfl rfl ?_
  refine x_iconst (v := 3) rfl ki_3 ?_
  refine y_newa2 (v := 3) 101 100 3 rfl ⟨rfl, by decide, by decide⟩ jac_int (by decide) (by decide) (by decide) rfl ⟨by decide, by decide⟩ ?_
  show jX m_X0_init 1298 8 286 24 [(0, .ref 98), (1, .ref 32), (2, .ref 78)] [.ref 101, .ref 98] _ 3 63 _
  refine x_putR 0 4 rfl f_0_18 rfl (jfin_in TX0 RX0 16 rfl rfl rfl rfl) rfl rfl ?_
  refine x_aloadn (x := 98) rfl rfl ?_
  refine x_bipush (v := 40) rfl kb_40 ?_
  refine y_newa2 (v := 40) 102 100 40 rfl ⟨rfl, by decide, by decide⟩ jac_int (by decide) (by decide) (by decide) rfl ⟨by decide, by decide⟩ ?_
  show jX m_X0_init 1298 8 286 32 [(0, .ref 98), (1, .ref 32), (2, .ref 78)] [.ref 102, .ref 98] _ 4 103 _
  refine x_putR 0 5 rfl f_0_21 rfl (jfin_in TX0 RX0 16 rfl rfl rfl rfl) rfl rfl ?_
  refine x_aloadn (x := 98) rfl rfl ?_
  refine x_bipush (v := 40) rfl kb_40 ?_
  refine y_newa2 (v := 40) 103 100 40 rfl ⟨rfl, by decide, by decide⟩ jac_int (by decide) (by decide) (by decide) rfl ⟨by decide, by decide⟩ ?_
  show jX m_X0_init 1298 8 286 40 [(0, .ref 98), (1, .ref 32), (2, .ref 78)] [.ref 103, .ref 98] _ 5 143 _
  refine x_putR 0 6 rfl f_0_24 rfl (jfin_in TX0 RX0 16 rfl rfl rfl rfl) rfl rfl ?_
  refine x_aloadn (x := 98) rfl rfl ?_
  refine x_bipush (v := 40) rfl kb_40 ?_
  refine y_newa2 (v := 40) 104 100 40 rfl ⟨rfl, by decide, by decide⟩ jac_int (by decide) (by decide) (by decide) rfl ⟨by decide, by decide⟩ ?_
  show jX m_X0_init 1298 8 286 48 [(0, .ref 98), (1, .ref 32), (2, .ref 78)] [.ref 104, .ref 98] _ 6 183 _
  refine x_putR 0 7 rfl f_0_27 rfl (jfin_in TX0 RX0 16 rfl rfl rfl rfl) rfl rfl ?_
  refine x_aloadn (x := 98) rfl rfl ?_
  refine x_iconst (v := 3) rfl ki_3 ?_
  refine y_newa2 (v := 3) 105 100 3 rfl ⟨rfl, by decide, by decide⟩ jac_int (by decide) (by decide) (by decide) rfl ⟨by decide, by decide⟩ ?_
  show jX m_X0_init 1298 8 286 55 [(0, .ref 98), (1, .ref 32), (2, .ref 78)] [.ref 105, .ref 98] _ 7 186 _
  refine x_putR 0 8 rfl f_0_30 rfl (jfin_in TX0 RX0 16 rfl rfl rfl rfl) rfl rfl ?_
  refine x_aloadn (x := 98) rfl rfl ?_
  refine x_bipush (v := 100) rfl kb_100 ?_
  refine y_newa2 (v := 100) 106 101 100 rfl ⟨rfl, by decide, by decide⟩ jac_long (by decide) (by decide) (by decide) rfl ⟨by decide, by decide⟩ ?_
  show jX m_X0_init 1298 8 286 63 [(0, .ref 98), (1, .ref 32), (2, .ref 78)] [.ref 106, .ref 98] _ 8 286 _
  refine x_putR 0 9 rfl f_0_33 rfl (jfin_in TX0 RX0 16 rfl rfl rfl rfl) rfl rfl ?_
  refine x_aloadn (x := 98) rfl rfl ?_
  refine x_iconst (v := 0) rfl ki_0 ?_
  refine x_putI 0 10 rfl f_0_37 rfl (jfin_no TX0 RX0 16 rfl rfl) rfl rfl ?_
  refine x_aloadn (x := 98) rfl rfl ?_
  refine x_iconst (v := 0) rfl ki_0 ?_
  refine x_putI 0 11 rfl f_0_41 rfl (jfin_no TX0 RX0 16 rfl rfl) rfl rfl ?_
  refine x_aloadn (x := 98) rfl rfl ?_
  refine x_lconst (v := 0) rfl kl_0 ?_
  refine x_putL 0 12 rfl f_0_44 rfl (jfin_no TX0 RX0 16 rfl rfl) rfl rfl ?_
  refine x_aloadn (x := 98) rfl rfl ?_
  refine x_iconst (v := (-1)) rfl ki_m1 ?_
  refine x_putI 0 13 rfl f_0_48 rfl (jfin_no TX0 RX0 16 rfl rfl) rfl rfl ?_
  refine x_aloadn (x := 98) rfl rfl ?_
  refine x_lconst (v := 0) rfl kl_0 ?_
  refine x_putL 0 14 rfl f_0_51 rfl (jfin_no TX0 RX0 16 rfl rfl) rfl rfl ?_
  refine x_aloadn (x := 98) rfl rfl ?_
  refine x_iconst (v := 0) rfl ki_0 ?_
  refine x_putI 0 15 rfl f_0_54 rfl (jfin_no TX0 RX0 16 rfl rfl) rfl rfl ?_
  refine x_aloadn (x := 98) rfl rfl ?_
  refine x_aloadn (x := 32) rfl rfl ?_
  refine x_putR 0 0 rfl f_0_57 rfl (jfin_in TX0 RX0 16 rfl rfl rfl rfl) rfl rfl ?_
  refine x_aloadn (x := 98) rfl rfl ?_
  refine x_aloadn (x := 78) rfl rfl ?_
  refine x_putR 0 1 rfl f_0_61 rfl (jfin_in TX0 RX0 16 rfl rfl rfl rfl) rfl rfl ?_
  refine x_vret rfl rfl ?_
  show jX m_X11_init 1299 93 92549 122 [(0, .ref 31)] [.ref 98, .ref 31] _ 75 91226 _
  refine x_putR 11 7 rfl f_11_66 rfl (jfin_in TX11 RX11 13 rfl rfl rfl rfl) rfl rfl ?_
  refine x_aloadn (x := 31) rfl rfl ?_
  refine y_new 107 4 18 rfl v_11_70 rfl ⟨by decide, by decide⟩ ?_
  show jX m_X11_init 1299 93 92549 129 [(0, .ref 31)] [.ref 107, .ref 31] _ 76 91244 _
  refine x_dup rfl rfl ?_
  refine x_aloadn (x := 31) rfl rfl ?_
  refine x_getR (b := 32) 11 0 rfl f_11_10 rfl rfl rfl ?_
  refine x_aloadn (x := 31) rfl rfl ?_
  refine x_getR (b := 78) 11 4 rfl f_11_41 rfl rfl rfl ?_
  refine x_aloadn (x := 31) rfl rfl ?_
  refine x_getR (b := 98) 11 7 rfl f_11_66 rfl rfl rfl ?_
  refine x_ins (N := m_X4_init) (As := [.ref 32, .ref 78, .ref 98]) (b := 107) (st := [.ref 107, .ref 31]) (dx9 := 1298) (mc := 12) (ms := 1089) (host := "") rfl t_X4_init ⟨Or.inl q_11_72, i_X4_init, rfl, rfl⟩ rfl (by decide) rfl rfl ⟨by decide, by decide⟩ (jC.of rfl k_X4_init rfl ?_)
  show jX m_X4_init 1298 12 1089 0 [(0, .ref 107), (1, .ref 32), (2, .ref 78), (3, .ref 98)] [] _ 0 0 _
  refine x_aloadn (x := 107) rfl rfl ?_
  refine x_obj rfl ⟨q_4_3, jobj_w⟩ (by decide) rfl ?_
  refine x_aloadn (x := 107) rfl rfl ?_
  refine x_bipush (v := 40) rfl kb_40 ?_
  refine y_newa2 (v := 40) 108 100 40 rfl ⟨rfl, by decide, by decide⟩ jac_int (by decide) (by decide) (by decide) rfl ⟨by decide, by decide⟩ ?_
  show jX m_X4_init 1298 12 1089 9 [(0, .ref 107), (1, .ref 32), (2, .ref 78), (3, .ref 98)] [.ref 108, .ref 107] _ 1 40 _
  refine x_putR 4 3 rfl f_4_9 rfl (jfin_in TX4 RX4 18 rfl rfl rfl rfl) rfl rfl ?_
  refine x_aloadn (x := 107) rfl rfl ?_
  refine x_bipush (v := 40) rfl kb_40 ?_
  refine y_newa2 (v := 40) 109 100 40 rfl ⟨rfl, by decide, by decide⟩ jac_int (by decide) (by decide) (by decide) rfl ⟨by decide, by decide⟩ ?_
  show jX m_X4_init 1298 12 1089 17 [(0, .ref 107), (1, .ref 32), (2, .ref 78), (3, .ref 98)] [.ref 109, .ref 107] _ 2 80 _
  refine x_putR 4 4 rfl f_4_15 rfl (jfin_in TX4 RX4 18 rfl rfl rfl rfl) rfl rfl ?_
  refine x_aloadn (x := 107) rfl rfl ?_
  refine x_bipush (v := 40) rfl kb_40 ?_
  refine y_newa2 (v := 40) 110 101 40 rfl ⟨rfl, by decide, by decide⟩ jac_long (by decide) (by decide) (by decide) rfl ⟨by decide, by decide⟩ ?_
  show jX m_X4_init 1298 12 1089 25 [(0, .ref 107), (1, .ref 32), (2, .ref 78), (3, .ref 98)] [.ref 110, .ref 107] _ 3 120 _
  refine x_putR 4 5 rfl f_4_18 rfl (jfin_in TX4 RX4 18 rfl rfl rfl rfl) rfl rfl ?_
  refine x_aloadn (x := 107) rfl rfl ?_
  refine x_iconst (v := 3) rfl ki_3 ?_
  refine y_newa2 (v := 3) 111 100 3 rfl ⟨rfl, by decide, by decide⟩ jac_int (by decide) (by decide) (by decide) rfl ⟨by decide, by decide⟩ ?_
  show jX m_X4_init 1298 12 1089 32 [(0, .ref 107), (1, .ref 32), (2, .ref 78), (3, .ref 98)] [.ref 111, .ref 107] _ 4 123 _
  refine x_putR 4 6 rfl f_4_22 rfl (jfin_in TX4 RX4 18 rfl rfl rfl rfl) rfl rfl ?_
  refine x_aloadn (x := 107) rfl rfl ?_
  refine x_bipush (v := 40) rfl kb_40 ?_
  refine y_newa2 (v := 40) 112 100 40 rfl ⟨rfl, by decide, by decide⟩ jac_int (by decide) (by decide) (by decide) rfl ⟨by decide, by decide⟩ ?_
  show jX m_X4_init 1298 12 1089 40 [(0, .ref 107), (1, .ref 32), (2, .ref 78), (3, .ref 98)] [.ref 112, .ref 107] _ 5 163 _
  refine x_putR 4 7 rfl f_4_25 rfl (jfin_in TX4 RX4 18 rfl rfl rfl rfl) rfl rfl ?_
  refine x_aloadn (x := 107) rfl rfl ?_
  refine x_bipush (v := 40) rfl kb_40 ?_
  refine y_newa2 (v := 40) 113 101 40 rfl ⟨rfl, by decide, by decide⟩ jac_long (by decide) (by decide) (by decide) rfl ⟨by decide, by decide⟩ ?_
  show jX m_X4_init 1298 12 1089 48 [(0, .ref 107), (1, .ref 32), (2, .ref 78), (3, .ref 98)] [.ref 113, .ref 107] _ 6 203 _
  refine x_putR 4 8 rfl f_4_28 rfl (jfin_in TX4 RX4 18 rfl rfl rfl rfl) rfl rfl ?_
  refine x_aloadn (x := 107) rfl rfl ?_
  refine x_iconst (v := 0) rfl ki_0 ?_
  refine x_putI 4 9 rfl f_4_31 rfl (jfin_no TX4 RX4 18 rfl rfl) rfl rfl ?_
  refine x_aloadn (x := 107) rfl rfl ?_
  refine x_iconst (v := 3) rfl ki_3 ?_
  refine y_newa2 (v := 3) 114 100 3 rfl ⟨rfl, by decide, by decide⟩ jac_int (by decide) (by decide) (by decide) rfl ⟨by decide, by decide⟩ ?_
  show jX m_X4_init 1298 12 1089 60 [(0, .ref 107), (1, .ref 32), (2, .ref 78), (3, .ref 98)] [.ref 114, .ref 107] _ 7 206 _
  refine x_putR 4 10 rfl f_4_35 rfl (jfin_in TX4 RX4 18 rfl rfl rfl rfl) rfl rfl ?_
  refine x_aloadn (x := 107) rfl rfl ?_
  refine x_sipush (v := 400) rfl ks_400 ?_
  refine y_newa2 (v := 400) 115 100 400 rfl ⟨rfl, by decide, by decide⟩ jac_int (by decide) (by decide) (by decide) rfl ⟨by decide, by decide⟩ ?_
  show jX m_X4_init 1298 12 1089 69 [(0, .ref 107), (1, .ref 32), (2, .ref 78), (3, .ref 98)] [.ref 115, .ref 107] _ 8 606 _
  refine x_putR 4 11 rfl f_4_38 rfl (jfin_in TX4 RX4 18 rfl rfl rfl rfl) rfl rfl ?_
  refine x_aloadn (x := 107) rfl rfl ?_
  refine x_sipush (v := 400) rfl ks_400 ?_
  refine y_newa2 (v := 400) 116 100 400 rfl ⟨rfl, by decide, by decide⟩ jac_int (by decide) (by decide) (by decide) rfl ⟨by decide, by decide⟩ ?_
  show jX m_X4_init 1298 12 1089 78 [(0, .ref 107), (1, .ref 32), (2, .ref 78), (3, .ref 98)] [.ref 116, .ref 107] _ 9 1006 _
  refine x_putR 4 12 rfl f_4_41 rfl (jfin_in TX4 RX4 18 rfl rfl rfl rfl) rfl rfl ?_
  refine x_aloadn (x := 107) rfl rfl ?_
  refine x_bipush (v := 40) rfl kb_40 ?_
  refine y_newa2 (v := 40) 117 100 40 rfl ⟨rfl, by decide, by decide⟩ jac_int (by decide) (by decide) (by decide) rfl ⟨by decide, by decide⟩ ?_
  show jX m_X4_init 1298 12 1089 86 [(0, .ref 107), (1, .ref 32), (2, .ref 78), (3, .ref 98)] [.ref 117, .ref 107] _ 10 1046 _
  refine x_putR 4 13 rfl f_4_44 rfl (jfin_in TX4 RX4 18 rfl rfl rfl rfl) rfl rfl ?_
  refine x_aloadn (x := 107) rfl rfl ?_
  refine x_bipush (v := 40) rfl kb_40 ?_
  refine y_newa2 (v := 40) 118 100 40 rfl ⟨rfl, by decide, by decide⟩ jac_int (by decide) (by decide) (by decide) rfl ⟨by decide, by decide⟩ ?_
  show jX m_X4_init 1298 12 1089 94 [(0, .ref 107), (1, .ref 32), (2, .ref 78), (3, .ref 98)] [.ref 118, .ref 107] _ 11 1086 _
  refine x_putR 4 14 rfl f_4_47 rfl (jfin_in TX4 RX4 18 rfl rfl rfl rfl) rfl rfl ?_
  refine x_aloadn (x := 107) rfl rfl ?_
  refine x_iconst (v := 0) rfl ki_0 ?_
  refine x_putI 4 15 rfl f_4_50 rfl (jfin_no TX4 RX4 18 rfl rfl) rfl rfl ?_
  refine x_aloadn (x := 107) rfl rfl ?_
  refine x_iconst (v := (-1)) rfl ki_m1 ?_
  refine x_putI 4 16 rfl f_4_53 rfl (jfin_no TX4 RX4 18 rfl rfl) rfl rfl ?_
  refine x_aloadn (x := 107) rfl rfl ?_
  refine x_iconst (v := 3) rfl ki_3 ?_
  refine y_newa2 (v := 3) 119 100 3 rfl ⟨rfl, by decide, by decide⟩ jac_int (by decide) (by decide) (by decide) rfl ⟨by decide, by decide⟩ ?_
  show jX m_X4_init 1298 12 1089 111 [(0, .ref 107), (1, .ref 32), (2, .ref 78), (3, .ref 98)] [.ref 119, .ref 107] _ 12 1089 _
  refine x_putR 4 17 rfl f_4_56 rfl (jfin_in TX4 RX4 18 rfl rfl rfl rfl) rfl rfl ?_
  refine x_aloadn (x := 107) rfl rfl ?_
  refine x_aloadn (x := 32) rfl rfl ?_
  refine x_putR 4 0 rfl f_4_59 rfl (jfin_in TX4 RX4 18 rfl rfl rfl rfl) rfl rfl ?_
  refine x_aloadn (x := 107) rfl rfl ?_
  refine x_aloadn (x := 78) rfl rfl ?_
  refine x_putR 4 1 rfl f_4_63 rfl (jfin_in TX4 RX4 18 rfl rfl rfl rfl) rfl rfl ?_
  refine x_aloadn (x := 107) rfl rfl ?_
  refine x_aloadn (x := 98) rfl rfl ?_
  refine x_putR 4 2 rfl f_4_67 rfl (jfin_in TX4 RX4 18 rfl rfl rfl rfl) rfl rfl ?_
  refine x_vret rfl rfl ?_
  show jX m_X11_init 1299 93 92549 145 [(0, .ref 31)] [.ref 107, .ref 31] _ 88 92333 _
  refine x_putR 11 8 rfl f_11_75 rfl (jfin_in TX11 RX11 13 rfl rfl rfl rfl) rfl rfl ?_
  refine x_aloadn (x := 31) rfl rfl ?_
  refine y_new 120 6 8 rfl v_11_79 rfl ⟨by decide, by decide⟩ ?_
  show jX m_X11_init 1299 93 92549 152 [(0, .ref 31)] [.ref 120, .ref 31] _ 89 92341 _
  refine x_dup rfl rfl ?_
  refine x_aloadn (x := 31) rfl rfl ?_
  refine x_getR (b := 32) 11 0 rfl f_11_10 rfl rfl rfl ?_
  refine x_aloadn (x := 31) rfl rfl ?_
  refine x_getR (b := 78) 11 4 rfl f_11_41 rfl rfl rfl ?_
  refine x_aloadn (x := 31) rfl rfl ?_
  refine x_getR (b := 98) 11 7 rfl f_11_66 rfl rfl rfl ?_
  refine x_ins (N := m_X6_init) (As := [.ref 32, .ref 78, .ref 98]) (b := 120) (st := [.ref 120, .ref 31]) (dx9 := 1298) (mc := 2) (ms := 84) (host := "") rfl t_X6_init ⟨Or.inl q_11_81, i_X6_init, rfl, rfl⟩ rfl (by decide) rfl rfl ⟨by decide, by decide⟩ (jC.of rfl k_X6_init rfl ?_)
  show jX m_X6_init 1298 2 84 0 [(0, .ref 120), (1, .ref 32), (2, .ref 78), (3, .ref 98)] [] _ 0 0 _
  refine x_aloadn (x := 120) rfl rfl ?_
  refine x_obj rfl ⟨q_6_3, jobj_w⟩ (by decide) rfl ?_
  refine x_aloadn (x := 120) rfl rfl ?_
  refine x_bipush (v := 42) rfl kb_42 ?_
  refine y_newa2 (v := 42) 121 100 42 rfl ⟨rfl, by decide, by decide⟩ jac_int (by decide) (by decide) (by decide) rfl ⟨by decide, by decide⟩ ?_
  show jX m_X6_init 1298 2 84 9 [(0, .ref 120), (1, .ref 32), (2, .ref 78), (3, .ref 98)] [.ref 121, .ref 120] _ 1 42 _
  refine x_putR 6 3 rfl f_6_11 rfl (jfin_in TX6 RX6 8 rfl rfl rfl rfl) rfl rfl ?_
  refine x_aloadn (x := 120) rfl rfl ?_
  refine x_bipush (v := 42) rfl kb_42 ?_
  refine y_newa2 (v := 42) 122 100 42 rfl ⟨rfl, by decide, by decide⟩ jac_int (by decide) (by decide) (by decide) rfl ⟨by decide, by decide⟩ ?_
  show jX m_X6_init 1298 2 84 17 [(0, .ref 120), (1, .ref 32), (2, .ref 78), (3, .ref 98)] [.ref 122, .ref 120] _ 2 84 _
  refine x_putR 6 4 rfl f_6_15 rfl (jfin_in TX6 RX6 8 rfl rfl rfl rfl) rfl rfl ?_
  refine x_aloadn (x := 120) rfl rfl ?_
  refine x_iconst (v := 0) rfl ki_0 ?_
  refine x_putI 6 5 rfl f_6_18 rfl (jfin_no TX6 RX6 8 rfl rfl) rfl rfl ?_
  refine x_aloadn (x := 120) rfl rfl ?_
  refine x_iconst (v := (-1)) rfl ki_m1 ?_
  refine x_putI 6 6 rfl f_6_22 rfl (jfin_no TX6 RX6 8 rfl rfl) rfl rfl ?_
  refine x_aloadn (x := 120) rfl rfl ?_
  refine x_iconst (v := 0) rfl ki_0 ?_
  refine x_putI 6 7 rfl f_6_25 rfl (jfin_no TX6 RX6 8 rfl rfl) rfl rfl ?_
  refine x_aloadn (x := 120) rfl rfl ?_
  refine x_aloadn (x := 32) rfl rfl ?_
  refine x_putR 6 0 rfl f_6_28 rfl (jfin_in TX6 RX6 8 rfl rfl rfl rfl) rfl rfl ?_
  refine x_aloadn (x := 120) rfl rfl ?_
  refine x_aloadn (x := 78) rfl rfl ?_
  refine x_putR 6 1 rfl f_6_32 rfl (jfin_in TX6 RX6 8 rfl rfl rfl rfl) rfl rfl ?_
  refine x_aloadn (x := 120) rfl rfl ?_
  refine x_aloadn (x := 98) rfl rfl ?_
  refine x_putR 6 2 rfl f_6_36 rfl (jfin_in TX6 RX6 8 rfl rfl rfl rfl) rfl rfl ?_
  refine x_vret rfl rfl ?_
  show jX m_X11_init 1299 93 92549 168 [(0, .ref 31)] [.ref 120, .ref 31] _ 91 92425 _
  refine x_putR 11 9 rfl f_11_82 rfl (jfin_in TX11 RX11 13 rfl rfl rfl rfl) rfl rfl ?_
  refine x_aloadn (x := 31) rfl rfl ?_
  refine x_bipush (v := 120) rfl kb_120 ?_
  refine y_newa2 (v := 120) 123 100 120 rfl ⟨rfl, by decide, by decide⟩ jac_int (by decide) (by decide) (by decide) rfl ⟨by decide, by decide⟩ ?_
  show jX m_X11_init 1299 93 92549 176 [(0, .ref 31)] [.ref 123, .ref 31] _ 92 92545 _
  refine x_putR 11 10 rfl f_11_86 rfl (jfin_in TX11 RX11 13 rfl rfl rfl rfl) rfl rfl ?_
  refine x_aloadn (x := 31) rfl rfl ?_
  refine x_iconst (v := 4) rfl ki_4 ?_
  refine y_newa2 (v := 4) 124 101 4 rfl ⟨rfl, by decide, by decide⟩ jac_long (by decide) (by decide) (by decide) rfl ⟨by decide, by decide⟩ ?_
  show jX m_X11_init 1299 93 92549 183 [(0, .ref 31)] [.ref 124, .ref 31] _ 93 92549 _
  refine x_putR 11 11 rfl f_11_90 rfl (jfin_in TX11 RX11 13 rfl rfl rfl rfl) rfl rfl ?_
  refine x_aloadn (x := 31) rfl rfl ?_
  refine x_iconst (v := 0) rfl ki_0 ?_
  refine x_putI 11 12 rfl f_11_94 rfl (jfin_no TX11 RX11 13 rfl rfl) rfl rfl ?_
  refine x_vret rfl rfl ?_
  show jX m_L_law 1300 600000 7302250 7 [(0, .ref 0)] [.ref 31] _ 94 92562 _
  refine x_astoren (lsx9 := [(1, .ref 31), (0, .ref 0)]) rfl rfl rfl ?_
  refine y_new 125 12 92 rfl v_13_10 rfl ⟨by decide, by decide⟩ ?_
  show jX m_L_law 1300 600000 7302250 11 [(1, .ref 31), (0, .ref 0)] [.ref 125] _ 95 92654 _
  refine x_dup rfl rfl ?_
  refine x_ins (N := m_X12_init) (As := []) (b := 125) (st := [.ref 125]) (dx9 := 1299) (mc := 48) (ms := 268238) (host := "") rfl t_X12_init ⟨Or.inl q_13_12, i_X12_init, rfl, rfl⟩ rfl (by decide) rfl rfl ⟨by decide, by decide⟩ (jC.of rfl k_X12_init rfl ?_)
  show jX m_X12_init 1299 48 268238 0 [(0, .ref 125)] [] _ 0 0 _
  refine x_aloadn (x := 125) rfl rfl ?_
  refine x_obj rfl ⟨q_12_1, jobj_w⟩ (by decide) rfl ?_
  refine x_aloadn (x := 125) rfl rfl ?_
  refine x_ldc (v := 50660) rfl z_12_7 ?_
  refine y_newa2 (v := 50660) 126 100 50660 rfl ⟨rfl, by decide, by decide⟩ jac_int (by decide) (by decide) (by decide) rfl ⟨by decide, by decide⟩ ?_
  show jX m_X12_init 1299 48 268238 9 [(0, .ref 125)] [.ref 126, .ref 125] _ 1 50660 _
  refine x_putR 12 2 rfl f_12_8 rfl (jfin_in TX12 RX12 92 rfl rfl rfl rfl) rfl rfl ?_
  refine x_aloadn (x := 125) rfl rfl ?_
  refine x_ldc (v := 202640) rfl z_12_14 ?_
  refine y_newa2 (v := 202640) 127 100 202640 rfl ⟨rfl, by decide, by decide⟩ jac_int (by decide) (by decide) (by decide) rfl ⟨by decide, by decide⟩ ?_
  show jX m_X12_init 1299 48 268238 17 [(0, .ref 125)] [.ref 127, .ref 125] _ 2 253300 _
  refine x_putR 12 3 rfl f_12_15 rfl (jfin_in TX12 RX12 92 rfl rfl rfl rfl) rfl rfl ?_
  refine x_aloadn (x := 125) rfl rfl ?_
  refine x_iconst (v := 4) rfl ki_4 ?_
  refine y_newa2 (v := 4) 128 102 4 rfl ⟨rfl, by decide, by decide⟩ jac_boolean (by decide) (by decide) (by decide) rfl ⟨by decide, by decide⟩ ?_
  show jX m_X12_init 1299 48 268238 24 [(0, .ref 125)] [.ref 128, .ref 125] _ 3 253304 _
  refine x_putR 12 4 rfl f_12_18 rfl (jfin_in TX12 RX12 92 rfl rfl rfl rfl) rfl rfl ?_
  refine x_aloadn (x := 125) rfl rfl ?_
  refine x_sipush (v := 1600) rfl ks_1600 ?_
  refine y_newa2 (v := 1600) 129 101 1600 rfl ⟨rfl, by decide, by decide⟩ jac_long (by decide) (by decide) (by decide) rfl ⟨by decide, by decide⟩ ?_
  show jX m_X12_init 1299 48 268238 33 [(0, .ref 125)] [.ref 129, .ref 125] _ 4 254904 _
  refine x_putR 12 5 rfl f_12_22 rfl (jfin_in TX12 RX12 92 rfl rfl rfl rfl) rfl rfl ?_
  refine x_aloadn (x := 125) rfl rfl ?_
  refine x_sipush (v := 6400) rfl ks_6400 ?_
  refine y_newa2 (v := 6400) 130 101 6400 rfl ⟨rfl, by decide, by decide⟩ jac_long (by decide) (by decide) (by decide) rfl ⟨by decide, by decide⟩ ?_
  show jX m_X12_init 1299 48 268238 42 [(0, .ref 125)] [.ref 130, .ref 125] _ 5 261304 _
  refine x_putR 12 6 rfl f_12_26 rfl (jfin_in TX12 RX12 92 rfl rfl rfl rfl) rfl rfl ?_
  refine x_aloadn (x := 125) rfl rfl ?_
  refine x_sipush (v := 400) rfl ks_400 ?_
  refine y_newa2 (v := 400) 131 100 400 rfl ⟨rfl, by decide, by decide⟩ jac_int (by decide) (by decide) (by decide) rfl ⟨by decide, by decide⟩ ?_
  show jX m_X12_init 1299 48 268238 51 [(0, .ref 125)] [.ref 131, .ref 125] _ 6 261704 _
  refine x_putR 12 7 rfl f_12_29 rfl (jfin_in TX12 RX12 92 rfl rfl rfl rfl) rfl rfl ?_
  refine x_aloadn (x := 125) rfl rfl ?_
  refine x_iconst (v := (-1)) rfl ki_m1 ?_
  refine x_putI 12 13 rfl f_12_32 rfl (jfin_no TX12 RX12 92 rfl rfl) rfl rfl ?_
  refine x_aloadn (x := 125) rfl rfl ?_
  refine x_bipush (v := 16) rfl kb_16 ?_
  refine y_newa2 (v := 16) 132 100 16 rfl ⟨rfl, by decide, by decide⟩ jac_int (by decide) (by decide) (by decide) rfl ⟨by decide, by decide⟩ ?_
  show jX m_X12_init 1299 48 268238 64 [(0, .ref 125)] [.ref 132, .ref 125] _ 7 261720 _
  refine x_putR 12 15 rfl f_12_36 rfl (jfin_in TX12 RX12 92 rfl rfl rfl rfl) rfl rfl ?_
  refine x_aloadn (x := 125) rfl rfl ?_
  refine x_sipush (v := 256) rfl ks_256 ?_
  refine y_newa2 (v := 256) 133 100 256 rfl ⟨rfl, by decide, by decide⟩ jac_int (by decide) (by decide) (by decide) rfl ⟨by decide, by decide⟩ ?_
  show jX m_X12_init 1299 48 268238 73 [(0, .ref 125)] [.ref 133, .ref 125] _ 8 261976 _
  refine x_putR 12 16 rfl f_12_39 rfl (jfin_in TX12 RX12 92 rfl rfl rfl rfl) rfl rfl ?_
  refine x_aloadn (x := 125) rfl rfl ?_
  refine x_sipush (v := 768) rfl ks_768 ?_
  refine y_newa2 (v := 768) 134 100 768 rfl ⟨rfl, by decide, by decide⟩ jac_int (by decide) (by decide) (by decide) rfl ⟨by decide, by decide⟩ ?_
  show jX m_X12_init 1299 48 268238 82 [(0, .ref 125)] [.ref 134, .ref 125] _ 9 262744 _
  refine x_putR 12 17 rfl f_12_42 rfl (jfin_in TX12 RX12 92 rfl rfl rfl rfl) rfl rfl ?_
  refine x_aloadn (x := 125) rfl rfl ?_
  refine x_bipush (v := 16) rfl kb_16 ?_
  refine y_newa2 (v := 16) 135 100 16 rfl ⟨rfl, by decide, by decide⟩ jac_int (by decide) (by decide) (by decide) rfl ⟨by decide, by decide⟩ ?_
  show jX m_X12_init 1299 48 268238 90 [(0, .ref 125)] [.ref 135, .ref 125] _ 10 262760 _
  refine x_putR 12 19 rfl f_12_45 rfl (jfin_in TX12 RX12 92 rfl rfl rfl rfl) rfl rfl ?_
  refine x_aloadn (x := 125) rfl rfl ?_
  refine x_bipush (v := 48) rfl kb_48 ?_
  refine y_newa2 (v := 48) 136 100 48 rfl ⟨rfl, by decide, by decide⟩ jac_int (by decide) (by decide) (by decide) rfl ⟨by decide, by decide⟩ ?_
  show jX m_X12_init 1299 48 268238 98 [(0, .ref 125)] [.ref 136, .ref 125] _ 11 262808 _
  refine x_putR 12 20 rfl f_12_48 rfl (jfin_in TX12 RX12 92 rfl rfl rfl rfl) rfl rfl ?_
  refine x_aloadn (x := 125) rfl rfl ?_
  refine x_bipush (v := 80) rfl kb_80 ?_
  refine y_newa2 (v := 80) 137 100 80 rfl ⟨rfl, by decide, by decide⟩ jac_int (by decide) (by decide) (by decide) rfl ⟨by decide, by decide⟩ ?_
  show jX m_X12_init 1299 48 268238 106 [(0, .ref 125)] [.ref 137, .ref 125] _ 12 262888 _
  refine x_putR 12 21 rfl f_12_51 rfl (jfin_in TX12 RX12 92 rfl rfl rfl rfl) rfl rfl ?_
  refine x_aloadn (x := 125) rfl rfl ?_
  refine x_iconst (v := 2) rfl ki_2 ?_
  refine y_newa2 (v := 2) 138 100 2 rfl ⟨rfl, by decide, by decide⟩ jac_int (by decide) (by decide) (by decide) rfl ⟨by decide, by decide⟩ ?_
  show jX m_X12_init 1299 48 268238 113 [(0, .ref 125)] [.ref 138, .ref 125] _ 13 262890 _
  refine x_putR 12 22 rfl f_12_54 rfl (jfin_in TX12 RX12 92 rfl rfl rfl rfl) rfl rfl ?_
  refine x_aloadn (x := 125) rfl rfl ?_
  refine x_bipush (v := 10) rfl kb_10 ?_
  refine x_putI 12 23 rfl f_12_57 rfl (jfin_no TX12 RX12 92 rfl rfl) rfl rfl ?_
  refine x_aloadn (x := 125) rfl rfl ?_
  refine x_bipush (v := 10) rfl kb_10 ?_
  refine x_putI 12 24 rfl f_12_60 rfl (jfin_no TX12 RX12 92 rfl rfl) rfl rfl ?_
  refine x_aloadn (x := 125) rfl rfl ?_
  refine x_iconst (v := 5) rfl ki_5 ?_
  refine x_putI 12 25 rfl f_12_63 rfl (jfin_no TX12 RX12 92 rfl rfl) rfl rfl ?_
  refine x_aloadn (x := 125) rfl rfl ?_
  refine x_bipush (v := 20) rfl kb_20 ?_
  refine x_putI 12 26 rfl f_12_66 rfl (jfin_no TX12 RX12 92 rfl rfl) rfl rfl ?_
  refine x_aloadn (x := 125) rfl rfl ?_
  refine x_iconst (v := 2) rfl ki_2 ?_
  refine x_putI 12 27 rfl f_12_69 rfl (jfin_no TX12 RX12 92 rfl rfl) rfl rfl ?_
  refine x_aloadn (x := 125) rfl rfl ?_
  refine x_sipush (v := 600) rfl ks_600 ?_
  refine y_newa2 (v := 600) 139 100 600 rfl ⟨rfl, by decide, by decide⟩ jac_int (by decide) (by decide) (by decide) rfl ⟨by decide, by decide⟩ ?_
  show jX m_X12_init 1299 48 268238 150 [(0, .ref 125)] [.ref 139, .ref 125] _ 14 263490 _
  refine x_putR 12 29 rfl f_12_72 rfl (jfin_in TX12 RX12 92 rfl rfl rfl rfl) rfl rfl ?_
  refine x_aloadn (x := 125) rfl rfl ?_
  refine x_sipush (v := 200) rfl ks_200 ?_
  refine y_newa2 (v := 200) 140 100 200 rfl ⟨rfl, by decide, by decide⟩ jac_int (by decide) (by decide) (by decide) rfl ⟨by decide, by decide⟩ ?_
  show jX m_X12_init 1299 48 268238 159 [(0, .ref 125)] [.ref 140, .ref 125] _ 15 263690 _
  refine x_putR 12 30 rfl f_12_75 rfl (jfin_in TX12 RX12 92 rfl rfl rfl rfl) rfl rfl ?_
  refine x_aloadn (x := 125) rfl rfl ?_
  refine x_bipush (v := 9) rfl kb_9 ?_
  refine y_newa2 (v := 9) 141 100 9 rfl ⟨rfl, by decide, by decide⟩ jac_int (by decide) (by decide) (by decide) rfl ⟨by decide, by decide⟩ ?_
  show jX m_X12_init 1299 48 268238 167 [(0, .ref 125)] [.ref 141, .ref 125] _ 16 263699 _
  refine x_putR 12 37 rfl f_12_78 rfl (jfin_in TX12 RX12 92 rfl rfl rfl rfl) rfl rfl ?_
  refine x_aloadn (x := 125) rfl rfl ?_
  refine x_bipush (v := 81) rfl kb_81 ?_
  refine y_newa2 (v := 81) 142 102 81 rfl ⟨rfl, by decide, by decide⟩ jac_boolean (by decide) (by decide) (by decide) rfl ⟨by decide, by decide⟩ ?_
  show jX m_X12_init 1299 48 268238 175 [(0, .ref 125)] [.ref 142, .ref 125] _ 17 263780 _
  refine x_putR 12 38 rfl f_12_81 rfl (jfin_in TX12 RX12 92 rfl rfl rfl rfl) rfl rfl ?_
  refine x_aloadn (x := 125) rfl rfl ?_
  refine x_bipush (v := 81) rfl kb_81 ?_
  refine y_newa2 (v := 81) 143 102 81 rfl ⟨rfl, by decide, by decide⟩ jac_boolean (by decide) (by decide) (by decide) rfl ⟨by decide, by decide⟩ ?_
  show jX m_X12_init 1299 48 268238 183 [(0, .ref 125)] [.ref 143, .ref 125] _ 18 263861 _
  refine x_putR 12 39 rfl f_12_84 rfl (jfin_in TX12 RX12 92 rfl rfl rfl rfl) rfl rfl ?_
  refine x_aloadn (x := 125) rfl rfl ?_
  refine x_bipush (v := 81) rfl kb_81 ?_
  refine y_newa2 (v := 81) 144 100 81 rfl ⟨rfl, by decide, by decide⟩ jac_int (by decide) (by decide) (by decide) rfl ⟨by decide, by decide⟩ ?_
  show jX m_X12_init 1299 48 268238 191 [(0, .ref 125)] [.ref 144, .ref 125] _ 19 263942 _
  refine x_putR 12 40 rfl f_12_87 rfl (jfin_in TX12 RX12 92 rfl rfl rfl rfl) rfl rfl ?_
  refine x_aloadn (x := 125) rfl rfl ?_
  refine x_bipush (v := 9) rfl kb_9 ?_
  refine y_newa2 (v := 9) 145 100 9 rfl ⟨rfl, by decide, by decide⟩ jac_int (by decide) (by decide) (by decide) rfl ⟨by decide, by decide⟩ ?_
  show jX m_X12_init 1299 48 268238 199 [(0, .ref 125)] [.ref 145, .ref 125] _ 20 263951 _
  refine x_putR 12 41 rfl f_12_90 rfl (jfin_in TX12 RX12 92 rfl rfl rfl rfl) rfl rfl ?_
  refine x_aloadn (x := 125) rfl rfl ?_
  refine x_bipush (v := 9) rfl kb_9 ?_
  refine y_newa2 (v := 9) 146 100 9 rfl ⟨rfl, by decide, by decide⟩ jac_int (by decide) (by decide) (by decide) rfl ⟨by decide, by decide⟩ ?_
  show jX m_X12_init 1299 48 268238 207 [(0, .ref 125)] [.ref 146, .ref 125] _ 21 263960 _
  refine x_putR 12 42 rfl f_12_93 rfl (jfin_in TX12 RX12 92 rfl rfl rfl rfl) rfl rfl ?_
  refine x_aloadn (x := 125) rfl rfl ?_
  refine x_bipush (v := 120) rfl kb_120 ?_
  refine y_newa2 (v := 120) 147 100 120 rfl ⟨rfl, by decide, by decide⟩ jac_int (by decide) (by decide) (by decide) rfl ⟨by decide, by decide⟩ ?_
  show jX m_X12_init 1299 48 268238 215 [(0, .ref 125)] [.ref 147, .ref 125] _ 22 264080 _
  refine x_putR 12 48 rfl f_12_96 rfl (jfin_in TX12 RX12 92 rfl rfl rfl rfl) rfl rfl ?_
  refine x_aloadn (x := 125) rfl rfl ?_
  refine x_sipush (v := 400) rfl ks_400 ?_
  refine y_newa2 (v := 400) 148 100 400 rfl ⟨rfl, by decide, by decide⟩ jac_int (by decide) (by decide) (by decide) rfl ⟨by decide, by decide⟩ ?_
  show jX m_X12_init 1299 48 268238 224 [(0, .ref 125)] [.ref 148, .ref 125] _ 23 264480 _
  refine x_putR 12 50 rfl f_12_99 rfl (jfin_in TX12 RX12 92 rfl rfl rfl rfl) rfl rfl ?_
  refine x_aloadn (x := 125) rfl rfl ?_
  refine x_sipush (v := 400) rfl ks_400 ?_
  refine y_newa2 (v := 400) 149 100 400 rfl ⟨rfl, by decide, by decide⟩ jac_int (by decide) (by decide) (by decide) rfl ⟨by decide, by decide⟩ ?_
  show jX m_X12_init 1299 48 268238 233 [(0, .ref 125)] [.ref 149, .ref 125] _ 24 264880 _
  refine x_putR 12 51 rfl f_12_102 rfl (jfin_in TX12 RX12 92 rfl rfl rfl rfl) rfl rfl ?_
  refine x_aloadn (x := 125) rfl rfl ?_
  refine x_sipush (v := 400) rfl ks_400 ?_
  refine y_newa2 (v := 400) 150 100 400 rfl ⟨rfl, by decide, by decide⟩ jac_int (by decide) (by decide) (by decide) rfl ⟨by decide, by decide⟩ ?_
  show jX m_X12_init 1299 48 268238 242 [(0, .ref 125)] [.ref 150, .ref 125] _ 25 265280 _
  refine x_putR 12 53 rfl f_12_105 rfl (jfin_in TX12 RX12 92 rfl rfl rfl rfl) rfl rfl ?_
  refine x_aloadn (x := 125) rfl rfl ?_
  refine x_sipush (v := 400) rfl ks_400 ?_
  refine y_newa2 (v := 400) 151 100 400 rfl ⟨rfl, by decide, by decide⟩ jac_int (by decide) (by decide) (by decide) rfl ⟨by decide, by decide⟩ ?_
  show jX m_X12_init 1299 48 268238 251 [(0, .ref 125)] [.ref 151, .ref 125] _ 26 265680 _
  refine x_putR 12 54 rfl f_12_108 rfl (jfin_in TX12 RX12 92 rfl rfl rfl rfl) rfl rfl ?_
  refine x_aloadn (x := 125) rfl rfl ?_
  refine x_iconst (v := (-1)) rfl ki_m1 ?_
  refine x_putI 12 57 rfl f_12_111 rfl (jfin_no TX12 RX12 92 rfl rfl) rfl rfl ?_
  refine x_aloadn (x := 125) rfl rfl ?_
  refine x_sipush (v := 360) rfl ks_360 ?_
  refine y_newa2 (v := 360) 152 102 360 rfl ⟨rfl, by decide, by decide⟩ jac_boolean (by decide) (by decide) (by decide) rfl ⟨by decide, by decide⟩ ?_
  show jX m_X12_init 1299 48 268238 265 [(0, .ref 125)] [.ref 152, .ref 125] _ 27 266040 _
  refine x_putR 12 58 rfl f_12_114 rfl (jfin_in TX12 RX12 92 rfl rfl rfl rfl) rfl rfl ?_
  refine x_aloadn (x := 125) rfl rfl ?_
  refine x_bipush (v := 30) rfl kb_30 ?_
  refine y_newa2 (v := 30) 153 102 30 rfl ⟨rfl, by decide, by decide⟩ jac_boolean (by decide) (by decide) (by decide) rfl ⟨by decide, by decide⟩ ?_
  show jX m_X12_init 1299 48 268238 273 [(0, .ref 125)] [.ref 153, .ref 125] _ 28 266070 _
  refine x_putR 12 59 rfl f_12_117 rfl (jfin_in TX12 RX12 92 rfl rfl rfl rfl) rfl rfl ?_
  refine x_aloadn (x := 125) rfl rfl ?_
  refine x_sipush (v := 400) rfl ks_400 ?_
  refine y_newa2 (v := 400) 154 101 400 rfl ⟨rfl, by decide, by decide⟩ jac_long (by decide) (by decide) (by decide) rfl ⟨by decide, by decide⟩ ?_
  show jX m_X12_init 1299 48 268238 282 [(0, .ref 125)] [.ref 154, .ref 125] _ 29 266470 _
  refine x_putR 12 60 rfl f_12_120 rfl (jfin_in TX12 RX12 92 rfl rfl rfl rfl) rfl rfl ?_
  refine x_aloadn (x := 125) rfl rfl ?_
  refine x_sipush (v := 360) rfl ks_360 ?_
  refine y_newa2 (v := 360) 155 101 360 rfl ⟨rfl, by decide, by decide⟩ jac_long (by decide) (by decide) (by decide) rfl ⟨by decide, by decide⟩ ?_
  show jX m_X12_init 1299 48 268238 291 [(0, .ref 125)] [.ref 155, .ref 125] _ 30 266830 _
  refine x_putR 12 67 rfl f_12_123 rfl (jfin_in TX12 RX12 92 rfl rfl rfl rfl) rfl rfl ?_
  refine x_aloadn (x := 125) rfl rfl ?_
  refine x_bipush (v := 8) rfl kb_8 ?_
  refine y_newa2 (v := 8) 156 100 8 rfl ⟨rfl, by decide, by decide⟩ jac_int (by decide) (by decide) (by decide) rfl ⟨by decide, by decide⟩ ?_
  show jX m_X12_init 1299 48 268238 299 [(0, .ref 125)] [.ref 156, .ref 125] _ 31 266838 _
  refine x_putR 12 68 rfl f_12_126 rfl (jfin_in TX12 RX12 92 rfl rfl rfl rfl) rfl rfl ?_
  refine x_aloadn (x := 125) rfl rfl ?_
  refine x_bipush (v := 8) rfl kb_8 ?_
  refine y_newa2 (v := 8) 157 100 8 rfl ⟨rfl, by decide, by decide⟩ jac_int (by decide) (by decide) (by decide) rfl ⟨by decide, by decide⟩ ?_
  show jX m_X12_init 1299 48 268238 307 [(0, .ref 125)] [.ref 157, .ref 125] _ 32 266846 _
  refine x_putR 12 69 rfl f_12_129 rfl (jfin_in TX12 RX12 92 rfl rfl rfl rfl) rfl rfl ?_
  refine x_aloadn (x := 125) rfl rfl ?_
  refine x_bipush (v := 8) rfl kb_8 ?_
  refine y_newa2 (v := 8) 158 100 8 rfl ⟨rfl, by decide, by decide⟩ jac_int (by decide) (by decide) (by decide) rfl ⟨by decide, by decide⟩ ?_
  show jX m_X12_init 1299 48 268238 315 [(0, .ref 125)] [.ref 158, .ref 125] _ 33 266854 _
  refine x_putR 12 70 rfl f_12_132 rfl (jfin_in TX12 RX12 92 rfl rfl rfl rfl) rfl rfl ?_
  refine x_aloadn (x := 125) rfl rfl ?_
  refine x_bipush (v := 8) rfl kb_8 ?_
  refine y_newa2 (v := 8) 159 100 8 rfl ⟨rfl, by decide, by decide⟩ jac_int (by decide) (by decide) (by decide) rfl ⟨by decide, by decide⟩ ?_
  show jX m_X12_init 1299 48 268238 323 [(0, .ref 125)] [.ref 159, .ref 125] _ 34 266862 _
  refine x_putR 12 71 rfl f_12_135 rfl (jfin_in TX12 RX12 92 rfl rfl rfl rfl) rfl rfl ?_
  refine x_aloadn (x := 125) rfl rfl ?_
  refine x_bipush (v := 8) rfl kb_8 ?_
  refine y_newa2 (v := 8) 160 100 8 rfl ⟨rfl, by decide, by decide⟩ jac_int (by decide) (by decide) (by decide) rfl ⟨by decide, by decide⟩ ?_
  show jX m_X12_init 1299 48 268238 331 [(0, .ref 125)] [.ref 160, .ref 125] _ 35 266870 _
  refine x_putR 12 72 rfl f_12_138 rfl (jfin_in TX12 RX12 92 rfl rfl rfl rfl) rfl rfl ?_
  refine x_aloadn (x := 125) rfl rfl ?_
  refine x_bipush (v := 8) rfl kb_8 ?_
  refine y_newa2 (v := 8) 161 100 8 rfl ⟨rfl, by decide, by decide⟩ jac_int (by decide) (by decide) (by decide) rfl ⟨by decide, by decide⟩ ?_
  show jX m_X12_init 1299 48 268238 339 [(0, .ref 125)] [.ref 161, .ref 125] _ 36 266878 _
  refine x_putR 12 73 rfl f_12_141 rfl (jfin_in TX12 RX12 92 rfl rfl rfl rfl) rfl rfl ?_
  refine x_aloadn (x := 125) rfl rfl ?_
  refine x_bipush (v := 80) rfl kb_80 ?_
  refine y_newa2 (v := 80) 162 100 80 rfl ⟨rfl, by decide, by decide⟩ jac_int (by decide) (by decide) (by decide) rfl ⟨by decide, by decide⟩ ?_
  show jX m_X12_init 1299 48 268238 347 [(0, .ref 125)] [.ref 162, .ref 125] _ 37 266958 _
  refine x_putR 12 77 rfl f_12_144 rfl (jfin_in TX12 RX12 92 rfl rfl rfl rfl) rfl rfl ?_
  refine x_aloadn (x := 125) rfl rfl ?_
  refine x_bipush (v := 80) rfl kb_80 ?_
  refine y_newa2 (v := 80) 163 100 80 rfl ⟨rfl, by decide, by decide⟩ jac_int (by decide) (by decide) (by decide) rfl ⟨by decide, by decide⟩ ?_
  show jX m_X12_init 1299 48 268238 355 [(0, .ref 125)] [.ref 163, .ref 125] _ 38 267038 _
  refine x_putR 12 78 rfl f_12_147 rfl (jfin_in TX12 RX12 92 rfl rfl rfl rfl) rfl rfl ?_
  refine x_aloadn (x := 125) rfl rfl ?_
  refine x_bipush (v := 40) rfl kb_40 ?_
  refine y_newa2 (v := 40) 164 100 40 rfl ⟨rfl, by decide, by decide⟩ jac_int (by decide) (by decide) (by decide) rfl ⟨by decide, by decide⟩ ?_
  show jX m_X12_init 1299 48 268238 363 [(0, .ref 125)] [.ref 164, .ref 125] _ 39 267078 _
  refine x_putR 12 79 rfl f_12_150 rfl (jfin_in TX12 RX12 92 rfl rfl rfl rfl) rfl rfl ?_
  refine x_aloadn (x := 125) rfl rfl ?_
  refine x_bipush (v := 40) rfl kb_40 ?_
  refine y_newa2 (v := 40) 165 101 40 rfl ⟨rfl, by decide, by decide⟩ jac_long (by decide) (by decide) (by decide) rfl ⟨by decide, by decide⟩ ?_
  show jX m_X12_init 1299 48 268238 371 [(0, .ref 125)] [.ref 165, .ref 125] _ 40 267118 _
  refine x_putR 12 80 rfl f_12_153 rfl (jfin_in TX12 RX12 92 rfl rfl rfl rfl) rfl rfl ?_
  refine x_aloadn (x := 125) rfl rfl ?_
  refine x_bipush (v := 40) rfl kb_40 ?_
  refine y_newa2 (v := 40) 166 101 40 rfl ⟨rfl, by decide, by decide⟩ jac_long (by decide) (by decide) (by decide) rfl ⟨by decide, by decide⟩ ?_
  show jX m_X12_init 1299 48 268238 379 [(0, .ref 125)] [.ref 166, .ref 125] _ 41 267158 _
  refine x_putR 12 81 rfl f_12_156 rfl (jfin_in TX12 RX12 92 rfl rfl rfl rfl) rfl rfl ?_
  refine x_aloadn (x := 125) rfl rfl ?_
  refine x_bipush (v := 40) rfl kb_40 ?_
  refine y_newa2 (v := 40) 167 102 40 rfl ⟨rfl, by decide, by decide⟩ jac_boolean (by decide) (by decide) (by decide) rfl ⟨by decide, by decide⟩ ?_
  show jX m_X12_init 1299 48 268238 387 [(0, .ref 125)] [.ref 167, .ref 125] _ 42 267198 _
  refine x_putR 12 82 rfl f_12_159 rfl (jfin_in TX12 RX12 92 rfl rfl rfl rfl) rfl rfl ?_
  refine x_aloadn (x := 125) rfl rfl ?_
  refine x_sipush (v := 400) rfl ks_400 ?_
  refine y_newa2 (v := 400) 168 100 400 rfl ⟨rfl, by decide, by decide⟩ jac_int (by decide) (by decide) (by decide) rfl ⟨by decide, by decide⟩ ?_
  show jX m_X12_init 1299 48 268238 396 [(0, .ref 125)] [.ref 168, .ref 125] _ 43 267598 _
  refine x_putR 12 83 rfl f_12_162 rfl (jfin_in TX12 RX12 92 rfl rfl rfl rfl) rfl rfl ?_
  refine x_aloadn (x := 125) rfl rfl ?_
  refine x_sipush (v := 400) rfl ks_400 ?_
  refine y_newa2 (v := 400) 169 100 400 rfl ⟨rfl, by decide, by decide⟩ jac_int (by decide) (by decide) (by decide) rfl ⟨by decide, by decide⟩ ?_
  show jX m_X12_init 1299 48 268238 405 [(0, .ref 125)] [.ref 169, .ref 125] _ 44 267998 _
  refine x_putR 12 84 rfl f_12_165 rfl (jfin_in TX12 RX12 92 rfl rfl rfl rfl) rfl rfl ?_
  refine x_aloadn (x := 125) rfl rfl ?_
  refine x_bipush (v := 40) rfl kb_40 ?_
  refine y_newa2 (v := 40) 170 101 40 rfl ⟨rfl, by decide, by decide⟩ jac_long (by decide) (by decide) (by decide) rfl ⟨by decide, by decide⟩ ?_
  show jX m_X12_init 1299 48 268238 413 [(0, .ref 125)] [.ref 170, .ref 125] _ 45 268038 _
  refine x_putR 12 85 rfl f_12_168 rfl (jfin_in TX12 RX12 92 rfl rfl rfl rfl) rfl rfl ?_
  refine x_aloadn (x := 125) rfl rfl ?_
  refine x_bipush (v := 40) rfl kb_40 ?_
  refine y_newa2 (v := 40) 171 102 40 rfl ⟨rfl, by decide, by decide⟩ jac_boolean (by decide) (by decide) (by decide) rfl ⟨by decide, by decide⟩ ?_
  show jX m_X12_init 1299 48 268238 421 [(0, .ref 125)] [.ref 171, .ref 125] _ 46 268078 _
  refine x_putR 12 86 rfl f_12_171 rfl (jfin_in TX12 RX12 92 rfl rfl rfl rfl) rfl rfl ?_
  refine x_aloadn (x := 125) rfl rfl ?_
  refine x_bipush (v := 40) rfl kb_40 ?_
  refine y_newa2 (v := 40) 172 100 40 rfl ⟨rfl, by decide, by decide⟩ jac_int (by decide) (by decide) (by decide) rfl ⟨by decide, by decide⟩ ?_
  show jX m_X12_init 1299 48 268238 429 [(0, .ref 125)] [.ref 172, .ref 125] _ 47 268118 _
  refine x_putR 12 87 rfl f_12_174 rfl (jfin_in TX12 RX12 92 rfl rfl rfl rfl) rfl rfl ?_
  refine x_aloadn (x := 125) rfl rfl ?_
  refine x_bipush (v := 120) rfl kb_120 ?_
  refine y_newa2 (v := 120) 173 100 120 rfl ⟨rfl, by decide, by decide⟩ jac_int (by decide) (by decide) (by decide) rfl ⟨by decide, by decide⟩ ?_
  show jX m_X12_init 1299 48 268238 437 [(0, .ref 125)] [.ref 173, .ref 125] _ 48 268238 _
  refine x_putR 12 88 rfl f_12_177 rfl (jfin_in TX12 RX12 92 rfl rfl rfl rfl) rfl rfl ?_
  refine x_vret rfl rfl ?_
  show jX m_L_law 1300 600000 7302250 15 [(1, .ref 31), (0, .ref 0)] [.ref 125] _ 143 360892 _
  refine x_astoren (lsx9 := [(2, .ref 125), (1, .ref 31), (0, .ref 0)]) rfl rfl rfl ?_
  refine x_iconst (v := 0) rfl ki_0 ?_
  refine x_istoren (lsx9 := [(3, .int 0), (2, .ref 125), (1, .ref 31), (0, .ref 0)]) rfl rfl rfl ?_
  exact kk _ (jFr_of rfl rfl rfl rfl rfl rfl rfl) (jOlZ_of rfl rfl)
